/-! the class: how a public call ends -/
theorem ciI_vis {t n j : Nat} {q : Nat × Nat} (h : cvI t n j = some q) : ciI q ≠ (0, 0, 0) := by
  intro e
  have := (cvI_inv h).symm.trans e
  have e1 : t = 0 := congrArg (fun z => z.1) this
  subst e1
  cases h
section
variable {sc : Nat × (Nat → Int32)} {m m2 : am_Mem} {G G2 : cg_G} {X Y E F : ms_X} {P R N T : Nat}
theorem c_ov_cg {α : Type} {own : Nat → Nat × Nat} {cv : Nat → Nat → Nat → Option (Nat × Nat)} {Y Y' : Nat × Nat → α} {I : Nat → Nat → α} (h : ∀ t n j q, cv t n j = some q → Y q = Y' q) : c_ov own cv Y I = c_ov own cv Y' I := by
  funext a j
  unfold c_ov
  split
  · rename_i q hq; exact h _ _ _ _ hq
  · rfl
theorem cm_cg (h1 : ∀ o i, o < 35 → ciI (o, i) ≠ (0, 0, 0) → X.1 o i = Y.1 o i) (h2 : X.2 = Y.2) : cm m G X E = cm m G Y E := by
  show (m.1, m.2.1, m.2.2.1, c_ov G.1 cvI (yI X E) m.2.2.2.1, c_ov G.1 cvJ (yJ X E) m.2.2.2.2.1, m.2.2.2.2.2) = _
  rw [c_ov_cg (Y := yI X E) (Y' := yI Y E) (fun t n j q hq => by
    unfold yI
    split
    · rename_i h; exact h1 q.1 q.2 h (ciI_vis hq)
    · rfl), c_ov_cg (Y := yJ X E) (Y' := yJ Y E) (fun t n j q hq => by
    unfold yJ
    rw [h2])]
  rfl
theorem cm_th (t : Int32) : cm m G (x_th X t) E = cm m G X E := cm_cg (fun o i _ hv => by
  by_cases e : o = 0
  · subst e
    by_cases e2 : i = 2
    · subst e2; exact absurd rfl hv
    · exact xU_j _ _ e2
  · exact xU_o _ _ e) rfl
theorem LC.n0 (hL : LC m G P R) {a : Nat} (h : am_n m < a) : (co G a).1 = 0 := by
  refine Classical.byContradiction (fun q => ?_)
  have := (hL.1 a q).2.2.2.2
  omega
theorem cm_nw (hL : LC m G P R) (kd len sz : Nat) : am_new (cm m G X E) kd len sz = cm (am_new m kd len sz) G X E := by
  have h0 := hL.n0 (a := m.1.1 + 1) (Nat.lt_succ_self _)
  have rI : ∀ {α : Type} (cv : Nat → Nat → Nat → Option (Nat × Nat)) (Y : Nat × Nat → α) (I : Nat → Nat → α) (z : α), (∀ n j, cv 0 n j = none) → am_row (c_ov G.1 cv Y I) (m.1.1 + 1) (fun _ => z) = c_ov G.1 cv Y (am_row I (m.1.1 + 1) (fun _ => z)) := by
    intro α cv Y I z hcv
    funext a j
    unfold am_row
    by_cases e : a = m.1.1 + 1
    · subst e
      have h1 : cv (G.1 (m.1.1 + 1)).1 (G.1 (m.1.1 + 1)).2 j = none := by
        rw [show (G.1 (m.1.1 + 1)).1 = 0 from h0]; exact hcv _ _
      rw [if_pos rfl, c_ov_n h1, if_pos rfl]
    · rw [if_neg e]
      unfold c_ov
      split
      · rfl
      · exact (if_neg e).symm
  show ((m.1.1 + 1, m.1.2 + sz), am_up m.2.1 (m.1.1 + 1) kd, am_up m.2.2.1 (m.1.1 + 1) len, am_row (c_ov G.1 cvI (yI X E) m.2.2.2.1) (m.1.1 + 1) (fun _ => 0), am_row (c_ov G.1 cvJ (yJ X E) m.2.2.2.2.1) (m.1.1 + 1) (fun _ => 0), am_row m.2.2.2.2.2 (m.1.1 + 1) (fun _ => 0)) = _
  rw [rI cvI _ _ _ cvI_0, rI cvJ _ _ _ cvJ_0]
  rfl
theorem LC.new (hL : LC m G P R) (kd len sz : Nat) : LC (am_new m kd len sz) G P R := by
  refine ⟨fun a ha => ?_, hL.2.1, fun t n j t' n' he hr => ?_, hL.2.2.2⟩
  · obtain ⟨b1, b2, b3, b4, b5⟩ := hL.1 a ha
    have ne : a ≠ m.1.1 + 1 := by have : a ≤ m.1.1 := b5; omega
    refine ⟨b1, (if_neg ne).trans b2, (if_neg ne).trans b3, b4, ?_⟩
    show a ≤ m.1.1 + 1
    have : a ≤ m.1.1 := b5
    omega
  · obtain ⟨h1, h2⟩ := hL.2.2.1 t n j t' n' he hr
    refine ⟨?_, h2⟩
    have ht : (co G (ca G t n)).1 ≠ 0 := by
      rw [show co G (ca G t n) = (t, n) from he]
      intro q
      have q : t = 0 := q
      subst q
      cases hr
    have ne : ca G t n ≠ m.1.1 + 1 := by have : ca G t n ≤ m.1.1 := (hL.1 _ ht).2.2.2.2; omega
    exact (if_neg ne).trans h1
/-- what holds between the calls -/
def INV (m : am_Mem) (G : cg_G) (X E : ms_X) (P R N T : Nat) : Prop := LC m G P R ∧ IM m G X P N ∧ IA X E P R N T ∧ IB X E P N ∧ y_WT G X N (am_R m (ca G 24 0))
/-- what others own is as it was; how much was made -/
def c_fr (m : am_Mem) (G : cg_G) (m2 : am_Mem) (G2 : cg_G) : Prop :=
  am_n m ≤ am_n m2 ∧ am_n m2 ≤ am_n m + 8 ∧ am_u m2 ≤ am_u m + 64 ∧ ca G2 1 0 = ca G 1 0 ∧ ∀ a, a ≤ am_n m → (co G a).1 = 0 → (co G2 a).1 = 0 ∧ am_K m2 a = am_K m a ∧ am_L m2 a = am_L m a ∧ ∀ j, am_I m2 a j = am_I m a j ∧ am_J m2 a j = am_J m a j ∧ am_R m2 a j = am_R m a j
def y_POST (m : am_Mem) (G : cg_G) (X2 : ms_X) (P R T : Nat) (m' : am_Mem) : Prop := ∃ m2 G2 E2 N2, m' = cm m2 G2 X2 E2 ∧ INV m2 G2 X2 E2 P R N2 T ∧ c_fr m G m2 G2
def y_Q (t : Int32) (kd : Nat) (v : Value) (Pm : am_Mem → Prop) : am_Out → am_Mem → Prop := fun o m' => Pm m' ∧ ((t = 0 ∧ o = .inl (some v)) ∨ (¬ t = 0 ∧ ∃ a, o = .inr a ∧ am_K m' a = kd))
theorem c_fr.refl (m : am_Mem) (G : cg_G) : c_fr m G m G := ⟨Nat.le_refl _, by omega, by omega, rfl, fun a _ h => ⟨h, rfl, rfl, fun j => ⟨rfl, rfl, rfl⟩⟩⟩
theorem c_fr.sR (hL : LC m G P R) (g : Nat → Nat) : c_fr m G (c_sR m (ca G 24 0) g) G := by
  refine ⟨Nat.le_refl _, by show am_n m ≤ _; omega, by show am_u m ≤ _; omega, rfl, fun a _ h => ⟨h, rfl, rfl, fun j => ⟨rfl, rfl, ?_⟩⟩⟩
  refine c_sR_Ro (fun e => ?_)
  subst e
  rw [show co G (ca G 24 0) = (24, 0) from hL.w] at h
  cases h
theorem c_fr.new (m : am_Mem) (G : cg_G) {kd len sz : Nat} (hs : sz ≤ 64) : c_fr m G (am_new m kd len sz) G := by
  refine ⟨by show am_n m ≤ am_n m + 1; omega, by show am_n m + 1 ≤ _; omega, by show am_u m + sz ≤ _; omega, rfl, fun a ha h => ?_⟩
  have ne : a ≠ m.1.1 + 1 := by have : a ≤ m.1.1 := ha; omega
  exact ⟨h, if_neg ne, if_neg ne, fun j => ⟨if_neg ne, if_neg ne, if_neg ne⟩⟩
theorem IM.new (hL : LC m G P R) (h : IM m G X P N) (kd len sz : Nat) : IM (am_new m kd len sz) G X P N := by
  have e23 : cx G 23 0 := (hL.2.2.1 1 0 3 23 0 hL.2.1 rfl).2
  have e20 : cx G 20 0 := (hL.2.2.1 1 0 0 20 0 hL.2.1 rfl).2
  have ne : ∀ t n, cx G t n → Nat.ble 1 t = true → ca G t n ≠ m.1.1 + 1 := fun t n he ht => by
    have : ca G t n ≤ m.1.1 := (y_0 hL he ht).2
    omega
  refine ⟨fun k hk => ⟨?_, (h.1 k hk).2⟩, fun p q hp h1 h2 => ⟨?_, (h.2.1 p q hp h1 h2).2⟩, h.2.2⟩
  · exact (if_neg (ne 23 0 e23 rfl)).trans (h.1 k hk).1
  · have e2 : cx G 2 p := (hL.2.2.1 20 0 p 2 p e20 (if_pos hp)).2
    have e3 : cx G 3 p := (hL.2.2.1 2 p 0 3 p e2 rfl).2
    exact (if_neg (ne 3 p e3 rfl)).trans (h.2.1 p q hp h1 h2).1
theorem IA.th (h : IA X E P R N T) (t : Int32) : IA (x_th X t) E P R N T := h.cg (fun j hj => xU_j _ _ hj) (fun o j ho _ _ _ _ => xU_o _ _ ho) (fun _ _ => rfl) (fun _ _ => rfl)
theorem IA.mono (h : IA X E P R N T) {T2 : Nat} (h1 : T ≤ T2) (h2 : T2 ≤ 1000000) : IA X E P R N T2 := by
  obtain ⟨a1, a2, a3, a4, a5, a6, a7, a8, a9⟩ := h
  exact ⟨a1, a2, a3, a4, a5, a6, a7, ⟨by have := a8.1; omega, a8.2⟩, h2⟩
theorem INV.th (h : INV m G X E P R N T) (t : Int32) : INV m G (x_th X t) E P R N T :=
  ⟨h.1, h.2.1.cg (fun _ => rfl) (fun _ => rfl), h.2.2.1.th t, h.2.2.2.1.cg (fun _ => rfl) (fun _ => rfl) (fun _ => rfl), h.2.2.2.2.cg (fun _ => rfl)⟩
theorem INV.new (h : INV m G X E P R N T) (kd len sz : Nat) : INV (am_new m kd len sz) G X E P R N T := by
  refine ⟨h.1.new kd len sz, h.2.1.new h.1 kd len sz, h.2.2.1, h.2.2.2.1, fun k hk hs => ?_⟩
  have ne : ca G 24 0 ≠ m.1.1 + 1 := by
    have : ca G 24 0 ≤ m.1.1 := (y_0 h.1 h.1.w rfl).2
    omega
  exact (if_neg ne).trans (h.2.2.2.2 k hk hs)
theorem INV.mono (h : INV m G X E P R N T) {T2 : Nat} (h1 : T ≤ T2) (h2 : T2 ≤ 1000000) : INV m G X E P R N T2 := ⟨h.1, h.2.1, h.2.2.1.mono h1 h2, h.2.2.2⟩
/-- a call that throws at once -/
theorem y_thr (h : INV m G X E P R N T) {T2 : Nat} (h1 : T ≤ T2) (h2 : T2 ≤ 1000000) {t : Int32} (ht : ¬ t = 0) (kd : Nat) (v : Value) : y_Q t kd v (y_POST m G (x_th X t) P R T2) (.inr (am_n m + 1)) (am_new (cm m G X E) kd 0 6) := by
  refine ⟨⟨am_new m kd 0 6, G, E, N, ?_, ((h.th t).new kd 0 6).mono h1 h2, c_fr.new m G (by omega)⟩, Or.inr ⟨ht, _, rfl, if_pos rfl⟩⟩
  rw [cm_nw h.1, cm_th]
theorem y_ok1 (h : INV m G X E P R N T) {T2 : Nat} (h1 : T ≤ T2) (h2 : T2 ≤ 1000000) : y_POST m G X P R T2 (cm m G X E) := ⟨m, G, E, N, rfl, h.mono h1 h2, c_fr.refl m G⟩
theorem y_okS (hL : LC m G P R) (hM : IM m G X P N) {T2 : Nat} (h1 : T ≤ T2) (h2 : T2 ≤ 1000000) {m' : am_Mem} (h : y_PS m G X P R N T m') : y_POST m G X P R T2 m' := by
  obtain ⟨g, E', q1, q2, q3, q4⟩ := h
  refine ⟨c_sR m (ca G 24 0) g, G, E', N, q4, ⟨hL.sR g, hM.sR hL g, q2.mono h1 h2, q3, fun k hk hs => ?_⟩, c_fr.sR hL g⟩
  rw [c_sR_R]
  exact q1 k hk hs
end
