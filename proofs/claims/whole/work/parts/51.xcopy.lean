/-! the reference: what a replica keeps; sums, snapshots, crashes, trims, questions -/
section
variable {sc : Nat × (Nat → Int32)} {m : am_Mem} {M : Nat} {X Y : ms_X} {P R N : Nat}
def x_sum (X : ms_X) (r : Nat) : Int32 := X.1 15 (3 * r) + X.1 15 (3 * r + 1) + X.1 15 (3 * r + 2)
theorem x_sum_ok (hM : LM m M) {r : Nat} (hr : r < 8) : am_W sc 90 0 [.ref M, .int (nI r)] [] (xm m M X) (am_R1 (some (.int (x_sum X r))) (xm m M X)) := by
  refine am_aload_n iX7_sum_0 rfl rfl ?_
  refine x_getR 15 hM iX7_sum_1 fX7_sum_53 rfl rfl rfl ?_
  refine am_iconst (i := 3) (v := 3) rfl iX7_sum_4 ?_
  refine am_iload_n iX7_sum_5 rfl rfl ?_
  refine am_imul iX7_sum_6 ?_
  refine x_iald (3 * r) hM rfl iX7_sum_7 (by first | rfl | simp only [nI_add, pk_mul, nI_1, nL0, nL1, nL2, nL3, nL4, nL10, nL30, nL300, nL401]) ((show 3 * r < 24 by omega)) ?_
  refine am_aload_n iX7_sum_8 rfl rfl ?_
  refine x_getR 15 hM iX7_sum_9 fX7_sum_53 rfl rfl rfl ?_
  refine am_iconst (i := 3) (v := 3) rfl iX7_sum_12 ?_
  refine am_iload_n iX7_sum_13 rfl rfl ?_
  refine am_imul iX7_sum_14 ?_
  refine am_iconst (i := 1) (v := 1) rfl iX7_sum_15 ?_
  refine am_iadd iX7_sum_16 ?_
  refine x_iald (3 * r + 1) hM rfl iX7_sum_17 (by first | rfl | simp only [nI_add, pk_mul, nI_1, nL0, nL1, nL2, nL3, nL4, nL10, nL30, nL300, nL401]) ((show 3 * r + 1 < 24 by omega)) ?_
  refine am_iadd iX7_sum_18 ?_
  refine am_aload_n iX7_sum_19 rfl rfl ?_
  refine x_getR 15 hM iX7_sum_20 fX7_sum_53 rfl rfl rfl ?_
  refine am_iconst (i := 3) (v := 3) rfl iX7_sum_23 ?_
  refine am_iload_n iX7_sum_24 rfl rfl ?_
  refine am_imul iX7_sum_25 ?_
  refine am_iconst (i := 2) (v := 2) rfl iX7_sum_26 ?_
  refine am_iadd iX7_sum_27 ?_
  refine x_iald (3 * r + 2) hM rfl iX7_sum_28 (by first | rfl | simp only [nI_add, pk_mul, nI_1, nL0, nL1, nL2, nL3, nL4, nL10, nL30, nL300, nL401]) ((show 3 * r + 2 < 24 by omega)) ?_
  refine am_iadd iX7_sum_29 ?_
  exact am_iret iX7_sum_30 rfl (⟨rfl, rfl⟩)
def x_ch (o : Nat) : Nat := if 8 ≤ o ∧ o ≤ 11 then 30 else if o = 12 then 300 else if o = 15 then 3 else 10
def x_cpf {α : Type} (F : Nat → Nat → α) (f t : Nat) (cnt : Nat → Nat) : Nat → Nat → α := fun o i => if x_ch o * t ≤ i ∧ i < x_ch o * t + cnt o then F o (x_ch o * f + (i - x_ch o * t)) else F o i
theorem x_cpf_s {α : Type} (F : Nat → Nat → α) {f t o c n : Nat} {cnt : Nat → Nat} (hft : f ≠ t) (hn : x_ch o = n) (hc : cnt o = c) (hlt : c < n) : am_put (x_cpf F f t cnt) o (n * t + c) (x_cpf F f t cnt o (n * f + c)) = x_cpf F f t (am_up cnt o (c + 1)) := by
  have hno : ¬ (n * t ≤ n * f + c ∧ n * f + c < n * t + c) := by
    rcases Nat.lt_or_ge f t with q | q
    · have h1 : n * (f + 1) ≤ n * t := Nat.mul_le_mul_left n q
      rw [Nat.mul_add] at h1
      omega
    · have h1 : n * t ≤ n * f := Nat.mul_le_mul_left n q
      omega
  funext a i
  unfold am_put
  by_cases ha : a = o
  · subst ha
    by_cases hi : i = n * t + c
    · subst hi
      rw [if_pos ⟨rfl, rfl⟩]
      unfold x_cpf am_up
      rw [hn, hc, if_neg hno]
      rw [if_pos rfl, if_pos ⟨by omega, by omega⟩, show n * t + c - n * t = c by omega]
    · rw [if_neg (fun q => hi q.2)]
      unfold x_cpf am_up
      rw [hn, hc]
      rw [if_pos rfl]
      by_cases h2 : n * t ≤ i ∧ i < n * t + c
      · rw [if_pos h2, if_pos ⟨h2.1, by omega⟩]
      · rw [if_neg h2, if_neg (fun q => h2 ⟨q.1, by omega⟩)]
  · rw [if_neg (fun q => ha q.1)]
    unfold x_cpf am_up
    rw [if_neg ha]
/-- how far each table has been copied -/
def x_c4 (a b c d e g h i : Nat) : Nat → Nat := fun o => if o = 8 then a else if o = 9 then b else if o = 10 then c else if o = 11 then d else if o = 12 then e else if o = 13 then g else if o = 14 then h else if o = 15 then i else 0
def x_c1 (a b c d e _g h i : Nat) : Nat → Nat := x_c4 a b c d e 0 h i
def x_c2 (_a _b _c _d _e g _h _i : Nat) : Nat → Nat := x_c4 0 0 0 0 0 g 0 0
def x_cp (X : ms_X) (f t a b c d e g h i : Nat) : ms_X := (x_cpf X.1 f t (x_c1 a b c d e g h i), x_cpf X.2 f t (x_c2 a b c d e g h i))
theorem x_upc {cnt cnt' : Nat → Nat} {o v : Nat} (h1 : cnt' o = v) (h2 : ∀ p, p ≠ o → cnt' p = cnt p) : am_up cnt o v = cnt' := by
  funext p
  unfold am_up
  split
  · rename_i q; subst q; exact h1.symm
  · rename_i q; exact (h2 p q).symm
theorem x_cpU {f t a b c d e g h i a' b' c' d' e' h' i' : Nat} (hft : f ≠ t) (o j n : Nat) (hn : x_ch o = n) (hc : x_c1 a b c d e g h i o = j) (hlt : j < n) (h1 : x_c1 a' b' c' d' e' g h' i' o = j + 1) (h2 : ∀ p, p ≠ o → x_c1 a' b' c' d' e' g h' i' p = x_c1 a b c d e g h i p) :
    xU (x_cp X f t a b c d e g h i) o (n * t + j) ((x_cp X f t a b c d e g h i).1 o (n * f + j)) = x_cp X f t a' b' c' d' e' g h' i' :=
  Prod.ext ((x_cpf_s X.1 hft hn hc hlt).trans (congrArg (x_cpf X.1 f t) (x_upc h1 h2))) rfl
theorem x_cpV {f t a b c d e g h i g' : Nat} (hft : f ≠ t) (o j n : Nat) (hn : x_ch o = n) (hc : x_c2 a b c d e g h i o = j) (hlt : j < n) (h1 : x_c2 a b c d e g' h i o = j + 1) (h2 : ∀ p, p ≠ o → x_c2 a b c d e g' h i p = x_c2 a b c d e g h i p) :
    xV (x_cp X f t a b c d e g h i) o (n * t + j) ((x_cp X f t a b c d e g h i).2 o (n * f + j)) = x_cp X f t a b c d e g' h i :=
  Prod.ext rfl ((x_cpf_s X.2 hft hn hc hlt).trans (congrArg (x_cpf X.2 f t) (x_upc h1 h2)))
theorem x_cpf_0 {α : Type} (F : Nat → Nat → α) (f t : Nat) {cnt : Nat → Nat} (h : ∀ o, cnt o = 0) : x_cpf F f t cnt = F := by
  funext o i
  unfold x_cpf
  rw [h o, if_neg (by omega)]
theorem x_cp_0 (X : ms_X) (f t : Nat) : x_cp X f t 0 0 0 0 0 0 0 0 = X := by
  have h : ∀ o, x_c4 0 0 0 0 0 0 0 0 o = 0 := by
    intro o
    unfold x_c4
    repeat' split
    all_goals rfl
  exact Prod.ext (x_cpf_0 X.1 f t h) (x_cpf_0 X.2 f t h)
def x_copy (X : ms_X) (f t : Nat) : ms_X := x_cp X f t 30 30 30 30 300 10 10 3
theorem x_ne1 {o : Nat} {a b c d e g h i a' b' c' d' e' h' i' : Nat} (H : ∀ p, p ≠ o → (p = 8 → a' = a) ∧ (p = 9 → b' = b) ∧ (p = 10 → c' = c) ∧ (p = 11 → d' = d) ∧ (p = 12 → e' = e) ∧ (p = 14 → h' = h) ∧ (p = 15 → i' = i)) : ∀ p, p ≠ o → x_c1 a' b' c' d' e' g h' i' p = x_c1 a b c d e g h i p := by
  intro p hp
  obtain ⟨q1, q2, q3, q4, q5, q6, q7⟩ := H p hp
  unfold x_c1 x_c4
  repeat' split
  all_goals first | rfl | exact q1 ‹_› | exact q2 ‹_› | exact q3 ‹_› | exact q4 ‹_› | exact q5 ‹_› | exact q6 ‹_› | exact q7 ‹_›
set_option maxHeartbeats 2000000 in
theorem x_copy_ok (hM : LM m M) {f t : Nat} (hf : f < 8) (ht : t < 8) (hft : f ≠ t) : am_W sc 89 0 [.ref M, .int (nI f), .int (nI t), .retAddr 1] [] (xm m M X) (am_R1 none (xm m M (x_copy X f t))) := by
  have l4 : ∀ d p : Nat, p + d = 3 → am_W sc 89 201 [.ref M, .int (nI f), .int (nI t), .int (nI p)] [] (xm m M (x_cp X f t 30 30 30 30 300 10 10 p)) (am_R1 none (xm m M (x_copy X f t))) := by
    intro d
    induction d with
    | zero =>
      intro p hp
      have e : p = 3 := by omega
      subst e
      refine am_iload_n iX7_copy_201 rfl rfl ?_
      refine am_iconst (i := 3) (v := 3) rfl iX7_copy_202 ?_
      refine am_icmp_ge iX7_copy_203 (fun _ => ?_) (fun hc => absurd (by decide) hc)
      exact am_vret iX7_copy_232 rfl (⟨rfl, rfl⟩)
    | succ d ih =>
      intro p hp
      refine am_iload_n iX7_copy_201 rfl rfl ?_
      refine am_iconst (i := 3) (v := 3) rfl iX7_copy_202 ?_
      refine am_icmp_ge iX7_copy_203 (fun hc => absurd hc (fun q => absurd ((nI_leI (b := p) (a := 3) (by omega) (by omega)).mp q) (by omega))) (fun _ => ?_)
      refine am_aload_n iX7_copy_206 rfl rfl ?_
      refine x_getR 15 hM iX7_copy_207 fX7_copy_53 rfl rfl rfl ?_
      refine am_iconst (i := 3) (v := 3) rfl iX7_copy_210 ?_
      refine am_iload_n iX7_copy_211 rfl rfl ?_
      refine am_imul iX7_copy_212 ?_
      refine am_iload_n iX7_copy_213 rfl rfl ?_
      refine am_iadd iX7_copy_214 ?_
      refine am_aload_n iX7_copy_215 rfl rfl ?_
      refine x_getR 15 hM iX7_copy_216 fX7_copy_53 rfl rfl rfl ?_
      refine am_iconst (i := 3) (v := 3) rfl iX7_copy_219 ?_
      refine am_iload_n iX7_copy_220 rfl rfl ?_
      refine am_imul iX7_copy_221 ?_
      refine am_iload_n iX7_copy_222 rfl rfl ?_
      refine am_iadd iX7_copy_223 ?_
      refine x_iald (3 * f + p) hM rfl iX7_copy_224 (by first | rfl | simp only [nI_add, pk_mul, nI_1, nL0, nL1, nL2, nL3, nL4, nL10, nL30, nL300, nL401]) ((show 3 * f + p < 24 by omega)) ?_
      refine x_iast (3 * t + p) hM rfl iX7_copy_225 (by first | rfl | simp only [nI_add, pk_mul, nI_1, nL0, nL1, nL2, nL3, nL4, nL10, nL30, nL300, nL401]) ((show 3 * t + p < 24 by omega)) ?_
      rw [x_cpU hft 15 p 3 rfl rfl (by omega) (a' := 30) (b' := 30) (c' := 30) (d' := 30) (e' := 300) (h' := 10) (i' := p + 1) rfl (x_ne1 (fun q hq => ⟨fun _ => rfl, fun _ => rfl, fun _ => rfl, fun _ => rfl, fun _ => rfl, fun _ => rfl, fun z => absurd z hq⟩))]
      refine am_iinc_3 1 iX7_copy_226 rfl rfl rfl ?_
      refine am_goto iX7_copy_229 ?_
      rw [nI_1]
      exact ih (p + 1) (by omega)
  have l3 : ∀ d p : Nat, p + d = 10 → am_W sc 89 143 [.ref M, .int (nI f), .int (nI t), .int (nI p)] [] (xm m M (x_cp X f t 30 30 30 30 300 p p 0)) (am_R1 none (xm m M (x_copy X f t))) := by
    intro d
    induction d with
    | zero =>
      intro p hp
      have e : p = 10 := by omega
      subst e
      refine am_iload_n iX7_copy_143 rfl rfl ?_
      refine am_bipush (i := 10) (v := 10) rfl iX7_copy_144 ?_
      refine am_icmp_ge iX7_copy_146 (fun _ => ?_) (fun hc => absurd (by decide) hc)
      refine am_iconst (i := 0) (v := 0) rfl iX7_copy_199 ?_
      refine am_istore_n_3 iX7_copy_200 rfl rfl ?_
      exact l4 3 0 rfl
    | succ d ih =>
      intro p hp
      refine am_iload_n iX7_copy_143 rfl rfl ?_
      refine am_bipush (i := 10) (v := 10) rfl iX7_copy_144 ?_
      refine am_icmp_ge iX7_copy_146 (fun hc => absurd hc (fun q => absurd ((nI_leI (b := p) (a := 10) (by omega) (by omega)).mp q) (by omega))) (fun _ => ?_)
      refine am_aload_n iX7_copy_149 rfl rfl ?_
      refine x_getR 13 hM iX7_copy_150 fX7_copy_46 rfl rfl rfl ?_
      refine am_bipush (i := 10) (v := 10) rfl iX7_copy_153 ?_
      refine am_iload_n iX7_copy_155 rfl rfl ?_
      refine am_imul iX7_copy_156 ?_
      refine am_iload_n iX7_copy_157 rfl rfl ?_
      refine am_iadd iX7_copy_158 ?_
      refine am_aload_n iX7_copy_159 rfl rfl ?_
      refine x_getR 13 hM iX7_copy_160 fX7_copy_46 rfl rfl rfl ?_
      refine am_bipush (i := 10) (v := 10) rfl iX7_copy_163 ?_
      refine am_iload_n iX7_copy_165 rfl rfl ?_
      refine am_imul iX7_copy_166 ?_
      refine am_iload_n iX7_copy_167 rfl rfl ?_
      refine am_iadd iX7_copy_168 ?_
      refine x_lald (10 * f + p) hM rfl iX7_copy_169 (by first | rfl | simp only [nI_add, pk_mul, nI_1, nL0, nL1, nL2, nL3, nL4, nL10, nL30, nL300, nL401]) ((show 10 * f + p < 80 by omega)) ?_
      refine x_last (10 * t + p) hM rfl iX7_copy_170 (by first | rfl | simp only [nI_add, pk_mul, nI_1, nL0, nL1, nL2, nL3, nL4, nL10, nL30, nL300, nL401]) ((show 10 * t + p < 80 by omega)) ?_
      rw [x_cpV hft 13 p 10 rfl rfl (by omega) (g' := p + 1) rfl (fun q hq => by unfold x_c2 x_c4; repeat' split; all_goals first | rfl | exact absurd ‹_› hq)]
      refine am_aload_n iX7_copy_171 rfl rfl ?_
      refine x_getR 14 hM iX7_copy_172 fX7_copy_50 rfl rfl rfl ?_
      refine am_bipush (i := 10) (v := 10) rfl iX7_copy_175 ?_
      refine am_iload_n iX7_copy_177 rfl rfl ?_
      refine am_imul iX7_copy_178 ?_
      refine am_iload_n iX7_copy_179 rfl rfl ?_
      refine am_iadd iX7_copy_180 ?_
      refine am_aload_n iX7_copy_181 rfl rfl ?_
      refine x_getR 14 hM iX7_copy_182 fX7_copy_50 rfl rfl rfl ?_
      refine am_bipush (i := 10) (v := 10) rfl iX7_copy_185 ?_
      refine am_iload_n iX7_copy_187 rfl rfl ?_
      refine am_imul iX7_copy_188 ?_
      refine am_iload_n iX7_copy_189 rfl rfl ?_
      refine am_iadd iX7_copy_190 ?_
      refine x_iald (10 * f + p) hM rfl iX7_copy_191 (by first | rfl | simp only [nI_add, pk_mul, nI_1, nL0, nL1, nL2, nL3, nL4, nL10, nL30, nL300, nL401]) ((show 10 * f + p < 80 by omega)) ?_
      refine x_iast (10 * t + p) hM rfl iX7_copy_192 (by first | rfl | simp only [nI_add, pk_mul, nI_1, nL0, nL1, nL2, nL3, nL4, nL10, nL30, nL300, nL401]) ((show 10 * t + p < 80 by omega)) ?_
      rw [x_cpU hft 14 p 10 rfl rfl (by omega) (a' := 30) (b' := 30) (c' := 30) (d' := 30) (e' := 300) (h' := p + 1) (i' := 0) rfl (x_ne1 (fun q hq => ⟨fun _ => rfl, fun _ => rfl, fun _ => rfl, fun _ => rfl, fun _ => rfl, fun z => absurd z hq, fun _ => rfl⟩))]
      refine am_iinc_3 1 iX7_copy_193 rfl rfl rfl ?_
      refine am_goto iX7_copy_196 ?_
      rw [nI_1]
      exact ih (p + 1) (by omega)
  have l2 : ∀ d p : Nat, p + d = 300 → am_W sc 89 104 [.ref M, .int (nI f), .int (nI t), .int (nI p)] [] (xm m M (x_cp X f t 30 30 30 30 p 0 0 0)) (am_R1 none (xm m M (x_copy X f t))) := by
    intro d
    induction d with
    | zero =>
      intro p hp
      have e : p = 300 := by omega
      subst e
      refine am_iload_n iX7_copy_104 rfl rfl ?_
      refine am_sipush (i := 300) (v := 300) rfl iX7_copy_105 ?_
      refine am_icmp_ge iX7_copy_108 (fun _ => ?_) (fun hc => absurd (by decide) hc)
      refine am_iconst (i := 0) (v := 0) rfl iX7_copy_141 ?_
      refine am_istore_n_3 iX7_copy_142 rfl rfl ?_
      exact l3 10 0 rfl
    | succ d ih =>
      intro p hp
      refine am_iload_n iX7_copy_104 rfl rfl ?_
      refine am_sipush (i := 300) (v := 300) rfl iX7_copy_105 ?_
      refine am_icmp_ge iX7_copy_108 (fun hc => absurd hc (fun q => absurd ((nI_leI (b := p) (a := 300) (by omega) (by omega)).mp q) (by omega))) (fun _ => ?_)
      refine am_aload_n iX7_copy_111 rfl rfl ?_
      refine x_getR 12 hM iX7_copy_112 fX7_copy_43 rfl rfl rfl ?_
      refine am_sipush (i := 300) (v := 300) rfl iX7_copy_115 ?_
      refine am_iload_n iX7_copy_118 rfl rfl ?_
      refine am_imul iX7_copy_119 ?_
      refine am_iload_n iX7_copy_120 rfl rfl ?_
      refine am_iadd iX7_copy_121 ?_
      refine am_aload_n iX7_copy_122 rfl rfl ?_
      refine x_getR 12 hM iX7_copy_123 fX7_copy_43 rfl rfl rfl ?_
      refine am_sipush (i := 300) (v := 300) rfl iX7_copy_126 ?_
      refine am_iload_n iX7_copy_129 rfl rfl ?_
      refine am_imul iX7_copy_130 ?_
      refine am_iload_n iX7_copy_131 rfl rfl ?_
      refine am_iadd iX7_copy_132 ?_
      refine x_iald (300 * f + p) hM rfl iX7_copy_133 (by first | rfl | simp only [nI_add, pk_mul, nI_1, nL0, nL1, nL2, nL3, nL4, nL10, nL30, nL300, nL401]) ((show 300 * f + p < 2400 by omega)) ?_
      refine x_iast (300 * t + p) hM rfl iX7_copy_134 (by first | rfl | simp only [nI_add, pk_mul, nI_1, nL0, nL1, nL2, nL3, nL4, nL10, nL30, nL300, nL401]) ((show 300 * t + p < 2400 by omega)) ?_
      rw [x_cpU hft 12 p 300 rfl rfl (by omega) (a' := 30) (b' := 30) (c' := 30) (d' := 30) (e' := p + 1) (h' := 0) (i' := 0) rfl (x_ne1 (fun q hq => ⟨fun _ => rfl, fun _ => rfl, fun _ => rfl, fun _ => rfl, fun z => absurd z hq, fun _ => rfl, fun _ => rfl⟩))]
      refine am_iinc_3 1 iX7_copy_135 rfl rfl rfl ?_
      refine am_goto iX7_copy_138 ?_
      rw [nI_1]
      exact ih (p + 1) (by omega)
  have l1 : ∀ d p : Nat, p + d = 30 → am_W sc 89 2 [.ref M, .int (nI f), .int (nI t), .int (nI p)] [] (xm m M (x_cp X f t p p p p 0 0 0 0)) (am_R1 none (xm m M (x_copy X f t))) := by
    intro d
    induction d with
    | zero =>
      intro p hp
      have e : p = 30 := by omega
      subst e
      refine am_iload_n iX7_copy_2 rfl rfl ?_
      refine am_bipush (i := 30) (v := 30) rfl iX7_copy_3 ?_
      refine am_icmp_ge iX7_copy_5 (fun _ => ?_) (fun hc => absurd (by decide) hc)
      refine am_iconst (i := 0) (v := 0) rfl iX7_copy_102 ?_
      refine am_istore_n_3 iX7_copy_103 rfl rfl ?_
      exact l2 300 0 rfl
    | succ d ih =>
      intro p hp
      have b1 : 30 * f + p < 240 := by omega
      have b2 : 30 * t + p < 240 := by omega
      refine am_iload_n iX7_copy_2 rfl rfl ?_
      refine am_bipush (i := 30) (v := 30) rfl iX7_copy_3 ?_
      refine am_icmp_ge iX7_copy_5 (fun hc => absurd hc (fun q => absurd ((nI_leI (b := p) (a := 30) (by omega) (by omega)).mp q) (by omega))) (fun _ => ?_)
      refine am_aload_n iX7_copy_8 rfl rfl ?_
      refine x_getR 8 hM iX7_copy_9 fX7_copy_31 rfl rfl rfl ?_
      refine am_bipush (i := 30) (v := 30) rfl iX7_copy_12 ?_
      refine am_iload_n iX7_copy_14 rfl rfl ?_
      refine am_imul iX7_copy_15 ?_
      refine am_iload_n iX7_copy_16 rfl rfl ?_
      refine am_iadd iX7_copy_17 ?_
      refine am_aload_n iX7_copy_18 rfl rfl ?_
      refine x_getR 8 hM iX7_copy_19 fX7_copy_31 rfl rfl rfl ?_
      refine am_bipush (i := 30) (v := 30) rfl iX7_copy_22 ?_
      refine am_iload_n iX7_copy_24 rfl rfl ?_
      refine am_imul iX7_copy_25 ?_
      refine am_iload_n iX7_copy_26 rfl rfl ?_
      refine am_iadd iX7_copy_27 ?_
      refine x_iald (30 * f + p) hM rfl iX7_copy_28 (by first | rfl | simp only [nI_add, pk_mul, nI_1, nL0, nL1, nL2, nL3, nL4, nL10, nL30, nL300, nL401]) (b1) ?_
      refine x_iast (30 * t + p) hM rfl iX7_copy_29 (by first | rfl | simp only [nI_add, pk_mul, nI_1, nL0, nL1, nL2, nL3, nL4, nL10, nL30, nL300, nL401]) (b2) ?_
      rw [x_cpU hft 8 p 30 rfl rfl (by omega) (a' := p + 1) (b' := p) (c' := p) (d' := p) (e' := 0) (h' := 0) (i' := 0) rfl (x_ne1 (fun q hq => ⟨fun z => absurd z hq, fun _ => rfl, fun _ => rfl, fun _ => rfl, fun _ => rfl, fun _ => rfl, fun _ => rfl⟩))]
      refine am_aload_n iX7_copy_30 rfl rfl ?_
      refine x_getR 9 hM iX7_copy_31 fX7_copy_34 rfl rfl rfl ?_
      refine am_bipush (i := 30) (v := 30) rfl iX7_copy_34 ?_
      refine am_iload_n iX7_copy_36 rfl rfl ?_
      refine am_imul iX7_copy_37 ?_
      refine am_iload_n iX7_copy_38 rfl rfl ?_
      refine am_iadd iX7_copy_39 ?_
      refine am_aload_n iX7_copy_40 rfl rfl ?_
      refine x_getR 9 hM iX7_copy_41 fX7_copy_34 rfl rfl rfl ?_
      refine am_bipush (i := 30) (v := 30) rfl iX7_copy_44 ?_
      refine am_iload_n iX7_copy_46 rfl rfl ?_
      refine am_imul iX7_copy_47 ?_
      refine am_iload_n iX7_copy_48 rfl rfl ?_
      refine am_iadd iX7_copy_49 ?_
      refine x_iald (30 * f + p) hM rfl iX7_copy_50 (by first | rfl | simp only [nI_add, pk_mul, nI_1, nL0, nL1, nL2, nL3, nL4, nL10, nL30, nL300, nL401]) (b1) ?_
      refine x_iast (30 * t + p) hM rfl iX7_copy_51 (by first | rfl | simp only [nI_add, pk_mul, nI_1, nL0, nL1, nL2, nL3, nL4, nL10, nL30, nL300, nL401]) (b2) ?_
      rw [x_cpU hft 9 p 30 rfl rfl (by omega) (a' := p + 1) (b' := p + 1) (c' := p) (d' := p) (e' := 0) (h' := 0) (i' := 0) rfl (x_ne1 (fun q hq => ⟨fun _ => rfl, fun z => absurd z hq, fun _ => rfl, fun _ => rfl, fun _ => rfl, fun _ => rfl, fun _ => rfl⟩))]
      refine am_aload_n iX7_copy_52 rfl rfl ?_
      refine x_getR 10 hM iX7_copy_53 fX7_copy_37 rfl rfl rfl ?_
      refine am_bipush (i := 30) (v := 30) rfl iX7_copy_56 ?_
      refine am_iload_n iX7_copy_58 rfl rfl ?_
      refine am_imul iX7_copy_59 ?_
      refine am_iload_n iX7_copy_60 rfl rfl ?_
      refine am_iadd iX7_copy_61 ?_
      refine am_aload_n iX7_copy_62 rfl rfl ?_
      refine x_getR 10 hM iX7_copy_63 fX7_copy_37 rfl rfl rfl ?_
      refine am_bipush (i := 30) (v := 30) rfl iX7_copy_66 ?_
      refine am_iload_n iX7_copy_68 rfl rfl ?_
      refine am_imul iX7_copy_69 ?_
      refine am_iload_n iX7_copy_70 rfl rfl ?_
      refine am_iadd iX7_copy_71 ?_
      refine x_iald (30 * f + p) hM rfl iX7_copy_72 (by first | rfl | simp only [nI_add, pk_mul, nI_1, nL0, nL1, nL2, nL3, nL4, nL10, nL30, nL300, nL401]) (b1) ?_
      refine x_iast (30 * t + p) hM rfl iX7_copy_73 (by first | rfl | simp only [nI_add, pk_mul, nI_1, nL0, nL1, nL2, nL3, nL4, nL10, nL30, nL300, nL401]) (b2) ?_
      rw [x_cpU hft 10 p 30 rfl rfl (by omega) (a' := p + 1) (b' := p + 1) (c' := p + 1) (d' := p) (e' := 0) (h' := 0) (i' := 0) rfl (x_ne1 (fun q hq => ⟨fun _ => rfl, fun _ => rfl, fun z => absurd z hq, fun _ => rfl, fun _ => rfl, fun _ => rfl, fun _ => rfl⟩))]
      refine am_aload_n iX7_copy_74 rfl rfl ?_
      refine x_getR 11 hM iX7_copy_75 fX7_copy_40 rfl rfl rfl ?_
      refine am_bipush (i := 30) (v := 30) rfl iX7_copy_78 ?_
      refine am_iload_n iX7_copy_80 rfl rfl ?_
      refine am_imul iX7_copy_81 ?_
      refine am_iload_n iX7_copy_82 rfl rfl ?_
      refine am_iadd iX7_copy_83 ?_
      refine am_aload_n iX7_copy_84 rfl rfl ?_
      refine x_getR 11 hM iX7_copy_85 fX7_copy_40 rfl rfl rfl ?_
      refine am_bipush (i := 30) (v := 30) rfl iX7_copy_88 ?_
      refine am_iload_n iX7_copy_90 rfl rfl ?_
      refine am_imul iX7_copy_91 ?_
      refine am_iload_n iX7_copy_92 rfl rfl ?_
      refine am_iadd iX7_copy_93 ?_
      refine x_iald (30 * f + p) hM rfl iX7_copy_94 (by first | rfl | simp only [nI_add, pk_mul, nI_1, nL0, nL1, nL2, nL3, nL4, nL10, nL30, nL300, nL401]) (b1) ?_
      refine x_iast (30 * t + p) hM rfl iX7_copy_95 (by first | rfl | simp only [nI_add, pk_mul, nI_1, nL0, nL1, nL2, nL3, nL4, nL10, nL30, nL300, nL401]) (b2) ?_
      rw [x_cpU hft 11 p 30 rfl rfl (by omega) (a' := p + 1) (b' := p + 1) (c' := p + 1) (d' := p + 1) (e' := 0) (h' := 0) (i' := 0) rfl (x_ne1 (fun q hq => ⟨fun _ => rfl, fun _ => rfl, fun _ => rfl, fun z => absurd z hq, fun _ => rfl, fun _ => rfl, fun _ => rfl⟩))]
      refine am_iinc_3 1 iX7_copy_96 rfl rfl rfl ?_
      refine am_goto iX7_copy_99 ?_
      rw [nI_1]
      exact ih (p + 1) (by omega)
  refine am_iconst (i := 0) (v := 0) rfl iX7_copy_0 ?_
  refine am_istore_n_3 iX7_copy_1 rfl rfl ?_
  have := l1 30 0 rfl
  rw [x_cp_0] at this
  exact this
theorem x_copy_o (X : ms_X) (f t : Nat) {a j : Nat} (h : a < 8 ∨ 15 < a) : (x_copy X f t).1 a j = X.1 a j := by
  show x_cpf X.1 f t (x_c4 30 30 30 30 300 0 10 3) a j = _
  unfold x_cpf
  have e : x_c4 30 30 30 30 300 0 10 3 a = 0 := by
    unfold x_c4
    repeat' split
    all_goals omega
  rw [e, if_neg (by omega)]
theorem x_copy_at (X : ms_X) (f t : Nat) {r p : Nat} (hp : p < 3) : (x_copy X f t).1 15 (3 * r + p) = if r = t then X.1 15 (3 * f + p) else X.1 15 (3 * r + p) := by
  show x_cpf X.1 f t (x_c4 30 30 30 30 300 0 10 3) 15 (3 * r + p) = _
  unfold x_cpf
  show (if 3 * t ≤ 3 * r + p ∧ 3 * r + p < 3 * t + 3 then X.1 15 (3 * f + (3 * r + p - 3 * t)) else X.1 15 (3 * r + p)) = _
  by_cases e : r = t
  · subst e
    rw [if_pos rfl, if_pos (by omega), show 3 * r + p - 3 * r = p by omega]
  · rw [if_neg e, if_neg (by omega)]
theorem x_Wf.copy (h : x_Wf X P R N) {f t : Nat} (hf : f < 8) : x_Wf (x_copy X f t) P R N := by
  obtain ⟨a1, a2, a3, a4, a5, a6, a7⟩ := h
  refine ⟨a1.cg (x_copy_o _ _ _ (by omega)) (x_copy_o _ _ _ (by omega)), a2.cg (x_copy_o _ _ _ (by omega)) (fun k => x_copy_o _ _ _ (by omega)) (fun k => x_copy_o _ _ _ (by omega)) (fun k => x_copy_o _ _ _ (by omega)), fun p hp => ?_, fun r p hr hp => ?_, fun p i hp h2 h3 => ?_, fun r hr => ?_, fun s hs => ?_⟩
  · rw [x_copy_o _ _ _ (by omega)]; exact a3 p hp
  · rw [x_copy_at _ _ _ hp, x_copy_o _ _ _ (by omega)]
    split
    · exact a4 f p hf hp
    · exact a4 r p hr hp
  · rw [x_copy_o _ _ _ (by omega)] at h3
    rw [x_copy_o _ _ _ (by omega), x_copy_o _ _ _ (by omega)]; exact a5 p i hp h2 h3
  · rw [x_copy_o _ _ _ (by omega), x_copy_o _ _ _ (by omega), x_copy_o _ _ _ (by omega)]; exact a6 r hr
  · rw [x_copy_o _ _ _ (by omega)]; exact a7 s hs
def x_snap (X : ms_X) (R : Nat) (r : Int32) : Int32 × ms_X := if x_rg r 0 ((R : Int) - 1) = true then (x_sum (x_copy (x_th X 0) (nt r) (4 + nt r)) (nt r), x_copy (x_th X 0) (nt r) (4 + nt r)) else (0, x_th X 1)
theorem x_snap_ok (hM : LM m M) (hP : x_PR X P R) (r : Int32) : am_W sc 91 0 [.ref M, .int r] [] (xm m M X) (am_R1 (some (.int (x_snap X R r).1)) (xm m M (x_snap X R r).2)) := by
  unfold x_snap
  refine am_aload_n iX7_snapshot_0 rfl rfl ?_
  refine am_aload_n iX7_snapshot_1 rfl rfl ?_
  refine am_iload_n iX7_snapshot_2 rfl rfl ?_
  refine am_cV1r iX7_snapshot_3 cX7_snapshot_162 mX7_isReplica hM.1 rfl rfl rfl (x_isReplica hM hP _) ?_
  cases hr : x_rg r 0 ((R : Int) - 1)
  · refine am_if_eq iX7_snapshot_6 (fun _ => ?_) (fun hc => absurd (by decide) hc)
    refine am_iconst (i := 1) (v := 1) rfl iX7_snapshot_13 ?_
    refine x_putI hM iX7_snapshot_14 fX7_snapshot_121 rfl rfl ?_
    refine am_aload_n iX7_snapshot_17 rfl rfl ?_
    refine x_getI hM iX7_snapshot_18 fX7_snapshot_121 ?_
    rw [xU_s]
    refine am_if_le iX7_snapshot_21 (fun hc => absurd hc (by decide)) (fun _ => ?_)
    refine am_iconst (i := 0) (v := 0) rfl iX7_snapshot_24 ?_
    exact am_iret iX7_snapshot_25 rfl (⟨rfl, rfl⟩)
  · refine am_if_eq iX7_snapshot_6 (fun hc => absurd hc (by decide)) (fun _ => ?_)
    obtain ⟨n, hn, hnt, rfl⟩ := x_rg_ex 4 hr (by have := hP.2.2.2.2.2; omega)
    rw [hnt, if_pos rfl]
    refine am_iconst (i := 0) (v := 0) rfl iX7_snapshot_9 ?_
    refine am_goto iX7_snapshot_10 ?_
    refine x_putI hM iX7_snapshot_14 fX7_snapshot_121 rfl rfl ?_
    refine am_aload_n iX7_snapshot_17 rfl rfl ?_
    refine x_getI hM iX7_snapshot_18 fX7_snapshot_121 ?_
    rw [xU_s]
    refine am_if_le iX7_snapshot_21 (fun _ => ?_) (fun hc => absurd (by decide) hc)
    refine am_aload_n iX7_snapshot_26 rfl rfl ?_
    refine am_iload_n iX7_snapshot_27 rfl rfl ?_
    refine am_iconst (i := 4) (v := 4) rfl iX7_snapshot_28 ?_
    refine am_iload_n iX7_snapshot_29 rfl rfl ?_
    refine am_iadd iX7_snapshot_30 ?_
    rw [nL4, nI_add]
    refine am_cV2v iX7_snapshot_31 cX7_snapshot_216 mX7_copy hM.1 rfl rfl rfl (x_copy_ok hM (show n < 8 by omega) (show 4 + n < 8 by omega) (by omega)) ?_
    refine am_aload_n iX7_snapshot_34 rfl rfl ?_
    refine am_iload_n iX7_snapshot_35 rfl rfl ?_
    refine am_cV1r iX7_snapshot_36 cX7_snapshot_219 mX7_sum hM.1 rfl rfl rfl (x_sum_ok hM (show n < 8 by omega)) ?_
    exact am_iret iX7_snapshot_39 rfl (⟨rfl, rfl⟩)
def x_crsh (X : ms_X) (R : Nat) (r : Int32) : Int32 × ms_X := if x_rg r 0 ((R : Int) - 1) = true then (x_sum (x_th X 0) (nt r) - x_sum (x_th X 0) (4 + nt r), x_copy (x_th X 0) (4 + nt r) (nt r)) else (0, x_th X 1)
theorem x_crsh_ok (hM : LM m M) (hP : x_PR X P R) (r : Int32) : am_W sc 92 0 [.ref M, .int r, .retAddr 1] [] (xm m M X) (am_R1 (some (.int (x_crsh X R r).1)) (xm m M (x_crsh X R r).2)) := by
  unfold x_crsh
  refine am_aload_n iX7_crash_0 rfl rfl ?_
  refine am_aload_n iX7_crash_1 rfl rfl ?_
  refine am_iload_n iX7_crash_2 rfl rfl ?_
  refine am_cV1r iX7_crash_3 cX7_crash_162 mX7_isReplica hM.1 rfl rfl rfl (x_isReplica hM hP _) ?_
  cases hr : x_rg r 0 ((R : Int) - 1)
  · refine am_if_eq iX7_crash_6 (fun _ => ?_) (fun hc => absurd (by decide) hc)
    refine am_iconst (i := 1) (v := 1) rfl iX7_crash_13 ?_
    refine x_putI hM iX7_crash_14 fX7_crash_121 rfl rfl ?_
    refine am_aload_n iX7_crash_17 rfl rfl ?_
    refine x_getI hM iX7_crash_18 fX7_crash_121 ?_
    rw [xU_s]
    refine am_if_le iX7_crash_21 (fun hc => absurd hc (by decide)) (fun _ => ?_)
    refine am_iconst (i := 0) (v := 0) rfl iX7_crash_24 ?_
    exact am_iret iX7_crash_25 rfl (⟨rfl, rfl⟩)
  · refine am_if_eq iX7_crash_6 (fun hc => absurd hc (by decide)) (fun _ => ?_)
    obtain ⟨n, hn, hnt, rfl⟩ := x_rg_ex 4 hr (by have := hP.2.2.2.2.2; omega)
    rw [hnt, if_pos rfl]
    refine am_iconst (i := 0) (v := 0) rfl iX7_crash_9 ?_
    refine am_goto iX7_crash_10 ?_
    refine x_putI hM iX7_crash_14 fX7_crash_121 rfl rfl ?_
    refine am_aload_n iX7_crash_17 rfl rfl ?_
    refine x_getI hM iX7_crash_18 fX7_crash_121 ?_
    rw [xU_s]
    refine am_if_le iX7_crash_21 (fun _ => ?_) (fun hc => absurd (by decide) hc)
    refine am_aload_n iX7_crash_26 rfl rfl ?_
    refine am_iload_n iX7_crash_27 rfl rfl ?_
    refine am_cV1r iX7_crash_28 cX7_crash_219 mX7_sum hM.1 rfl rfl rfl (x_sum_ok hM (show n < 8 by omega)) ?_
    refine am_aload_n iX7_crash_31 rfl rfl ?_
    refine am_iconst (i := 4) (v := 4) rfl iX7_crash_32 ?_
    refine am_iload_n iX7_crash_33 rfl rfl ?_
    refine am_iadd iX7_crash_34 ?_
    rw [nL4, nI_add]
    refine am_cV1r iX7_crash_35 cX7_crash_219 mX7_sum hM.1 rfl rfl rfl (x_sum_ok hM (show 4 + n < 8 by omega)) ?_
    refine am_isub iX7_crash_38 ?_
    refine am_istore_n_2 iX7_crash_39 rfl rfl ?_
    refine am_aload_n iX7_crash_40 rfl rfl ?_
    refine am_iconst (i := 4) (v := 4) rfl iX7_crash_41 ?_
    refine am_iload_n iX7_crash_42 rfl rfl ?_
    refine am_iadd iX7_crash_43 ?_
    refine am_iload_n iX7_crash_44 rfl rfl ?_
    rw [nL4, nI_add]
    refine am_cV2v iX7_crash_45 cX7_crash_216 mX7_copy hM.1 rfl rfl rfl (x_copy_ok hM (show 4 + n < 8 by omega) (show n < 8 by omega) (by omega)) ?_
    refine am_iload_n iX7_crash_48 rfl rfl ?_
    exact am_iret iX7_crash_49 rfl (⟨rfl, rfl⟩)
def x_lst (X : ms_X) (p : Nat) : Nat → Int32
  | 0 => 400
  | n + 1 => if x_lst X p n < X.1 15 (3 * (4 + n) + p) then x_lst X p n else X.1 15 (3 * (4 + n) + p)
def x_trN (X : ms_X) (R : Nat) : Nat → Int32 × ms_X
  | 0 => (0, X)
  | p + 1 => ((x_trN X R p).1 + (x_lst (x_trN X R p).2 p R - (x_trN X R p).2.1 2 p), xU (x_trN X R p).2 2 p (x_lst (x_trN X R p).2 p R))
theorem x_trN_o (X : ms_X) (R : Nat) {a j : Nat} (h : a ≠ 2) : ∀ p, (x_trN X R p).2.1 a j = X.1 a j
  | 0 => rfl
  | p + 1 => (xU_o _ _ h).trans (x_trN_o X R h p)
def x_trim (X : ms_X) (P R : Nat) : Int32 × ms_X := x_trN (x_th X 0) R P
theorem x_Wf.trim (h : x_Wf X P R N) : x_Wf (x_trim X P R).2 P R N := (h.th 0).cg (fun j _ _ => x_trN_o _ _ (by decide) _) (fun o j ho => x_trN_o _ _ (x_ws_ne ho).2.2.2.2.2.2.2.2.2.2.2.1 _)
set_option maxHeartbeats 1000000 in
theorem x_trim_ok (hM : LM m M) (hP : x_PR X P R) : am_W sc 93 0 [.ref M, .retAddr 1, .retAddr 1, .retAddr 1, .retAddr 1] [] (xm m M X) (am_R1 (some (.int (x_trim X P R).1)) (xm m M (x_trim X P R).2)) := by
  have hP4 := hP.2.2.2.1
  have hR4 := hP.2.2.2.2.2
  unfold x_trim
  refine am_aload_n iX7_trim_0 rfl rfl ?_
  refine am_iconst (i := 0) (v := 0) rfl iX7_trim_1 ?_
  refine x_putI hM iX7_trim_2 fX7_trim_121 rfl rfl ?_
  refine am_iconst (i := 0) (v := 0) rfl iX7_trim_5 ?_
  refine am_istore_n_1 iX7_trim_6 rfl rfl ?_
  refine am_iconst (i := 0) (v := 0) rfl iX7_trim_7 ?_
  refine am_istore_n_2 iX7_trim_8 rfl rfl ?_
  have hP' : x_PR (x_th X 0) P R := hP
  show am_W _ _ _ _ _ (xm m M (x_th X 0)) _
  generalize x_th X 0 = Z at hP' ⊢
  have key : ∀ d p : Nat, p + d = P → ∀ v3 v4 : Value, am_W sc 93 9 [.ref M, .int (x_trN Z R p).1, .int (nI p), v3, v4] [] (xm m M (x_trN Z R p).2) (am_R1 (some (.int (x_trN Z R P).1)) (xm m M (x_trN Z R P).2)) := by
    intro d
    induction d with
    | zero =>
      intro p hp v3 v4
      have e : p = P := by omega
      subst e
      refine am_iload_n iX7_trim_9 rfl rfl ?_
      refine am_aload_n iX7_trim_10 rfl rfl ?_
      refine x_getI hM iX7_trim_11 fX7_trim_114 ?_
      rw [x_trN_o _ _ (by decide), hP'.1]
      refine am_icmp_ge iX7_trim_14 (fun _ => ?_) (fun hc => absurd (nI_le (Nat.le_refl _) (by omega)) hc)
      refine am_iload_n iX7_trim_81 rfl rfl ?_
      exact am_iret iX7_trim_82 rfl (⟨rfl, rfl⟩)
    | succ d ih =>
      intro p hp v3 v4
      refine am_iload_n iX7_trim_9 rfl rfl ?_
      refine am_aload_n iX7_trim_10 rfl rfl ?_
      refine x_getI hM iX7_trim_11 fX7_trim_114 ?_
      rw [x_trN_o _ _ (by decide), hP'.1]
      refine am_icmp_ge iX7_trim_14 (fun hc => absurd hc (fun q => absurd ((nI_leI (by omega) (by omega)).mp q) (by omega))) (fun _ => ?_)
      refine am_sipush (i := 400) (v := 400) rfl iX7_trim_17 ?_
      refine am_istore_n_3 iX7_trim_20 rfl rfl ?_
      refine am_iconst (i := 0) (v := 0) rfl iX7_trim_21 ?_
      refine am_istore_4 iX7_trim_22 rfl rfl ?_
      have inner : ∀ d2 r : Nat, r + d2 = R → am_W sc 93 24 [.ref M, .int (x_trN Z R p).1, .int (nI p), .int (x_lst (x_trN Z R p).2 p r), .int (nI r)] [] (xm m M (x_trN Z R p).2) (am_R1 (some (.int (x_trN Z R P).1)) (xm m M (x_trN Z R P).2)) := by
        intro d2
        induction d2 with
        | zero =>
          intro r hr
          have e : r = R := by omega
          subst e
          refine am_iload iX7_trim_24 rfl ?_
          refine am_aload_n iX7_trim_26 rfl rfl ?_
          refine x_getI hM iX7_trim_27 fX7_trim_118 ?_
          rw [x_trN_o _ _ (by decide), hP'.2.1]
          refine am_icmp_ge iX7_trim_30 (fun _ => ?_) (fun hc => absurd (nI_le (Nat.le_refl _) (by omega)) hc)
          refine am_iload_n iX7_trim_57 rfl rfl ?_
          refine am_iload_n iX7_trim_58 rfl rfl ?_
          refine am_aload_n iX7_trim_59 rfl rfl ?_
          refine x_getR 2 hM iX7_trim_60 fX7_trim_13 rfl rfl rfl ?_
          refine am_iload_n iX7_trim_63 rfl rfl ?_
          refine x_iald (p) hM rfl iX7_trim_64 (by first | rfl | simp only [nI_add, pk_mul, nI_1, nL0, nL1, nL2, nL3, nL4, nL10, nL30, nL300, nL401]) ((show p < 3 by omega)) ?_
          refine am_isub iX7_trim_65 ?_
          refine am_iadd iX7_trim_66 ?_
          refine am_istore_n_1 iX7_trim_67 rfl rfl ?_
          refine am_aload_n iX7_trim_68 rfl rfl ?_
          refine x_getR 2 hM iX7_trim_69 fX7_trim_13 rfl rfl rfl ?_
          refine am_iload_n iX7_trim_72 rfl rfl ?_
          refine am_iload_n iX7_trim_73 rfl rfl ?_
          refine x_iast (p) hM rfl iX7_trim_74 (by first | rfl | simp only [nI_add, pk_mul, nI_1, nL0, nL1, nL2, nL3, nL4, nL10, nL30, nL300, nL401]) ((show p < 3 by omega)) ?_
          refine am_iinc_2 1 iX7_trim_75 rfl rfl rfl ?_
          refine am_goto iX7_trim_78 ?_
          rw [nI_1]
          exact ih (p + 1) (by omega) _ _
        | succ d2 ih2 =>
          intro r hr
          refine am_iload iX7_trim_24 rfl ?_
          refine am_aload_n iX7_trim_26 rfl rfl ?_
          refine x_getI hM iX7_trim_27 fX7_trim_118 ?_
          rw [x_trN_o _ _ (by decide), hP'.2.1]
          refine am_icmp_ge iX7_trim_30 (fun hc => absurd hc (fun q => absurd ((nI_leI (by omega) (by omega)).mp q) (by omega))) (fun _ => ?_)
          refine am_iload_n iX7_trim_33 rfl rfl ?_
          refine am_aload_n iX7_trim_34 rfl rfl ?_
          refine x_getR 15 hM iX7_trim_35 fX7_trim_53 rfl rfl rfl ?_
          refine am_iconst (i := 3) (v := 3) rfl iX7_trim_38 ?_
          refine am_iconst (i := 4) (v := 4) rfl iX7_trim_39 ?_
          refine am_iload iX7_trim_40 rfl ?_
          refine am_iadd iX7_trim_42 ?_
          refine am_imul iX7_trim_43 ?_
          refine am_iload_n iX7_trim_44 rfl rfl ?_
          refine am_iadd iX7_trim_45 ?_
          refine x_iald (3 * (4 + r) + p) hM rfl iX7_trim_46 (by first | rfl | simp only [nI_add, pk_mul, nI_1, nL0, nL1, nL2, nL3, nL4, nL10, nL30, nL300, nL401]) ((show 3 * (4 + r) + p < 24 by omega)) ?_
          refine am_cS2r iX7_trim_47 cX7_trim_182 mX7_lesser rfl rfl rfl (x_lesser _ _) ?_
          refine am_istore_n_3 iX7_trim_50 rfl rfl ?_
          refine am_iinc_4 1 iX7_trim_51 rfl rfl rfl ?_
          refine am_goto iX7_trim_54 ?_
          rw [nI_1]
          exact ih2 (r + 1) (by omega)
      exact inner R 0 (by omega)
  exact key P 0 (by omega) _ _
def x_isQ (P : Nat) (kd a : Int32) : Bool := if kd < 0 ∨ ¬ kd ≤ 8 then false else if kd < 4 ∨ kd = 7 then x_rg a 0 29 else if kd < 7 then x_rg a 0 9 else x_rg a (-1) ((P : Int) - 1)
theorem x_isQ_ok (hM : LM m M) (hP : x_PR X P R) (kd a : Int32) : am_W sc 94 0 [.ref M, .int kd, .int a] [] (xm m M X) (am_R1 (some (.int (x_b (x_isQ P kd a)))) (xm m M X)) := by
  unfold x_isQ
  refine am_iload_n iX7_isQuestion_0 rfl rfl ?_
  refine am_if_lt iX7_isQuestion_1 (fun h1 => ?_) (fun h1 => ?_)
  · rw [if_pos (Or.inl h1)]
    refine am_iconst (i := 0) (v := 0) rfl iX7_isQuestion_10 ?_
    exact am_zret iX7_isQuestion_11 rfl (by first | exact Or.inl rfl | exact Or.inr rfl) (⟨rfl, rfl⟩)
  · refine am_iload_n iX7_isQuestion_4 rfl rfl ?_
    refine am_bipush (i := 8) (v := 8) rfl iX7_isQuestion_5 ?_
    refine am_icmp_le iX7_isQuestion_7 (fun h2 => ?_) (fun h2 => ?_)
    · rw [if_neg (fun q => q.elim h1 (fun z => z h2))]
      refine am_iload_n iX7_isQuestion_12 rfl rfl ?_
      refine am_iconst (i := 4) (v := 4) rfl iX7_isQuestion_13 ?_
      have fin1 : (kd < 4 ∨ kd = 7) → am_W sc 94 23 [.ref M, .int kd, .int a] [] (xm m M X) (am_R1 (some (.int (x_b (if kd < 4 ∨ kd = 7 then x_rg a 0 29 else if kd < 7 then x_rg a 0 9 else x_rg a (-1) ((P : Int) - 1))))) (xm m M X)) := by
        intro hk
        rw [if_pos hk]
        refine am_iload_n iX7_isQuestion_23 rfl rfl ?_
        refine am_i2l iX7_isQuestion_24 ?_
        refine am_lconst (i := 0) (v := 0) rfl iX7_isQuestion_25 ?_
        refine am_ldc2 (v := 29) (wd_857) iX7_isQuestion_26 ?_
        refine am_cS3r iX7_isQuestion_29 cX7_isQuestion_148 mX7_in rfl rfl rfl (x_in _ _ _) ?_
        rw [x_rgL]
        refine am_goto iX7_isQuestion_32 ?_
        exact am_zret iX7_isQuestion_68 rfl (x_b01 _) (⟨rfl, rfl⟩)
      refine am_icmp_lt iX7_isQuestion_14 (fun h3 => ?_) (fun h3 => ?_)
      · exact fin1 (Or.inl h3)
      · refine am_iload_n iX7_isQuestion_17 rfl rfl ?_
        refine am_bipush (i := 7) (v := 7) rfl iX7_isQuestion_18 ?_
        refine am_icmp_ne iX7_isQuestion_20 (fun h4 => ?_) (fun h4 => ?_)
        · rw [if_neg (fun q => q.elim h3 h4)]
          refine am_iload_n iX7_isQuestion_35 rfl rfl ?_
          refine am_bipush (i := 7) (v := 7) rfl iX7_isQuestion_36 ?_
          refine am_icmp_ge iX7_isQuestion_38 (fun h5 => ?_) (fun h5 => ?_)
          · rw [if_neg (Int32.not_lt.mpr h5)]
            refine am_iload_n iX7_isQuestion_53 rfl rfl ?_
            refine am_i2l iX7_isQuestion_54 ?_
            refine am_ldc2 (v := -1) (wd_937) iX7_isQuestion_55 ?_
            refine am_aload_n iX7_isQuestion_58 rfl rfl ?_
            refine x_getI hM iX7_isQuestion_59 fX7_isQuestion_114 ?_
            refine am_iconst (i := 1) (v := 1) rfl iX7_isQuestion_62 ?_
            refine am_isub iX7_isQuestion_63 ?_
            refine am_i2l iX7_isQuestion_64 ?_
            refine am_cS3r iX7_isQuestion_65 cX7_isQuestion_148 mX7_in rfl rfl rfl (x_in _ _ _) ?_
            rw [x_rgL, hP.1, x_sub1 hP.2.2.1 (by have := hP.2.2.2.1; omega)]
            exact am_zret iX7_isQuestion_68 rfl (x_b01 _) (⟨rfl, rfl⟩)
          · rw [if_pos (Int32.not_le.mp h5)]
            refine am_iload_n iX7_isQuestion_41 rfl rfl ?_
            refine am_i2l iX7_isQuestion_42 ?_
            refine am_lconst (i := 0) (v := 0) rfl iX7_isQuestion_43 ?_
            refine am_ldc2 (v := 9) (wd_858) iX7_isQuestion_44 ?_
            refine am_cS3r iX7_isQuestion_47 cX7_isQuestion_148 mX7_in rfl rfl rfl (x_in _ _ _) ?_
            rw [x_rgL]
            refine am_goto iX7_isQuestion_50 ?_
            exact am_zret iX7_isQuestion_68 rfl (x_b01 _) (⟨rfl, rfl⟩)
        · exact fin1 (Or.inr h4)
    · rw [if_pos (Or.inr h2)]
      refine am_iconst (i := 0) (v := 0) rfl iX7_isQuestion_10 ?_
      exact am_zret iX7_isQuestion_11 rfl (by first | exact Or.inl rfl | exact Or.inr rfl) (⟨rfl, rfl⟩)
theorem x_isQ_qI {P : Nat} {kd a : Int32} (h : x_isQ P kd a = true) : x_qI kd a := by
  unfold x_isQ at h
  split at h
  · cases h
  · split at h
    · rename_i h1 h2
      refine ⟨fun _ => x_rg_ix h (by omega), fun q => ?_⟩
      exfalso
      rcases q with rfl | rfl | rfl <;> revert h2 <;> decide
    · rename_i h1 h2
      split at h
      · refine ⟨fun q => ?_, fun _ => x_rg_ix h (by omega)⟩
        exfalso
        rcases q with rfl | rfl | rfl | rfl <;> revert h2 <;> decide
      · rename_i h3
        constructor
        · intro q
          exfalso
          rcases q with rfl | rfl | rfl | rfl <;> revert h3 <;> decide
        · intro q
          exfalso
          rcases q with rfl | rfl | rfl <;> revert h3 <;> decide
def x_value (X : ms_X) (P R : Nat) (r kd a : Int32) : Int64 × ms_X := if (x_rg r 0 ((R : Int) - 1) && x_isQ P kd a) = true then (x_tell (x_th X 0) P (nt r) kd a, x_th X 0) else (0, x_th X 1)
theorem x_value_ok (hM : LM m M) (hP : x_PR X P R) (r kd a : Int32) : am_W sc 103 0 [.ref M, .int r, .int kd, .int a] [] (xm m M X) (am_R1 (some (.long (x_value X P R r kd a).1)) (xm m M (x_value X P R r kd a).2)) := by
  unfold x_value
  refine am_aload_n iX7_value_0 rfl rfl ?_
  refine am_aload_n iX7_value_1 rfl rfl ?_
  refine am_iload_n iX7_value_2 rfl rfl ?_
  refine am_cV1r iX7_value_3 cX7_value_162 mX7_isReplica hM.1 rfl rfl rfl (x_isReplica hM hP _) ?_
  cases hr : x_rg r 0 ((R : Int) - 1)
  · refine am_if_eq iX7_value_6 (fun _ => ?_) (fun hc => absurd (by decide) hc)
    refine am_iconst (i := 1) (v := 1) rfl iX7_value_22 ?_
    refine x_putI hM iX7_value_23 fX7_value_121 rfl rfl ?_
    refine am_aload_n iX7_value_26 rfl rfl ?_
    refine x_getI hM iX7_value_27 fX7_value_121 ?_
    rw [xU_s]
    refine am_if_le iX7_value_30 (fun hc => absurd hc (by decide)) (fun _ => ?_)
    refine am_lconst (i := 0) (v := 0) rfl iX7_value_33 ?_
    refine am_goto iX7_value_34 ?_
    exact am_lret iX7_value_44 rfl (⟨rfl, rfl⟩)
  · refine am_if_eq iX7_value_6 (fun hc => absurd hc (by decide)) (fun _ => ?_)
    refine am_aload_n iX7_value_9 rfl rfl ?_
    refine am_iload_n iX7_value_10 rfl rfl ?_
    refine am_iload_n iX7_value_11 rfl rfl ?_
    refine am_cV2r iX7_value_12 cX7_value_243 mX7_isQuestion hM.1 rfl rfl rfl (x_isQ_ok hM hP _ _) ?_
    cases hq : x_isQ P kd a
    · refine am_if_eq iX7_value_15 (fun _ => ?_) (fun hc => absurd (by decide) hc)
      refine am_iconst (i := 1) (v := 1) rfl iX7_value_22 ?_
      refine x_putI hM iX7_value_23 fX7_value_121 rfl rfl ?_
      refine am_aload_n iX7_value_26 rfl rfl ?_
      refine x_getI hM iX7_value_27 fX7_value_121 ?_
      rw [xU_s]
      refine am_if_le iX7_value_30 (fun hc => absurd hc (by decide)) (fun _ => ?_)
      refine am_lconst (i := 0) (v := 0) rfl iX7_value_33 ?_
      refine am_goto iX7_value_34 ?_
      exact am_lret iX7_value_44 rfl (⟨rfl, rfl⟩)
    · refine am_if_eq iX7_value_15 (fun hc => absurd hc (by decide)) (fun _ => ?_)
      obtain ⟨n, hn, hnt, rfl⟩ := x_rg_ex 4 hr (by have := hP.2.2.2.2.2; omega)
      rw [hnt, if_pos (show (true && true) = true from rfl)]
      refine am_iconst (i := 0) (v := 0) rfl iX7_value_18 ?_
      refine am_goto iX7_value_19 ?_
      refine x_putI hM iX7_value_23 fX7_value_121 rfl rfl ?_
      refine am_aload_n iX7_value_26 rfl rfl ?_
      refine x_getI hM iX7_value_27 fX7_value_121 ?_
      rw [xU_s]
      refine am_if_le iX7_value_30 (fun _ => ?_) (fun hc => absurd (by decide) hc)
      refine am_aload_n iX7_value_37 rfl rfl ?_
      refine am_iload_n iX7_value_38 rfl rfl ?_
      refine am_iload_n iX7_value_39 rfl rfl ?_
      refine am_iload_n iX7_value_40 rfl rfl ?_
      have hP' : x_PR (x_th X 0) P R := hP
      refine am_cV3r iX7_value_41 cX7_value_228 mX7_tell hM.1 rfl rfl rfl (x_tell_ok (X := x_th X 0) hM hP' (show n < 8 by omega) (x_isQ_qI hq)) ?_
      exact am_lret iX7_value_44 rfl (⟨rfl, rfl⟩)
end
