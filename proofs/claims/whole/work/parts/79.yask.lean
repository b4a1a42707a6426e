/-! the class: ask -/
section
variable {sc : Nat × (Nat → Int32)} {m m2 : am_Mem} {G : cg_G} {X E : ms_X} {P R N T : Nat}
def c_Rd (m : am_Mem) (a : Nat) (s : Int32) (t : Int64) (b dl kd q : Int32) : am_Mem := am_setI (am_setI (am_setI (am_setI (am_setJ (am_setI (am_setI (am_setI (am_setI m a 6 0) a 7 (-1)) a 8 (-1)) a 0 s) a 5 t) a 1 b) a 2 dl) a 3 kd) a 4 q
theorem y_Read {a : Nat} {s b dl kd q : Int32} {t : Int64} (ha : (co G a).1 = 0) (hk : am_K m a = 2) (h0 : ¬ a = 0) : am_W sc 5 0 [.ref a, .int s, .long t, .retAddr 1, .int b, .int dl, .int kd, .int q] [] (cm m G X E) (am_R1 none (cm (c_Rd m a s t b dl kd q) G X E)) := by
  have e : cm (c_Rd m a s t b dl kd q) G X E = am_setI (am_setI (am_setI (am_setI (am_setJ (am_setI (am_setI (am_setI (am_setI (cm m G X E) a 6 0) a 7 (-1)) a 8 (-1)) a 0 s) a 5 t) a 1 b) a 2 dl) a 3 kd) a 4 q := by
    rw [cm_setIu ha, cm_setIu ha, cm_setIu ha, cm_setIu ha, cm_setJu ha, cm_setIu ha, cm_setIu ha, cm_setIu ha, cm_setIu ha]
    rfl
  rw [e]
  have hk : am_K (cm m G X E) a = 2 := hk
  generalize cm m G X E = M at hk ⊢
  refine am_aload_n iX2_init_0 rfl rfl ?_
  refine am_oinit iX2_init_1 wd_553 wd_23 g_oi2 (Nat.le_of_ble_eq_true rfl) (Nat.le_of_ble_eq_true rfl) (h0) ?_
  refine am_aload_n iX2_init_4 rfl rfl ?_
  refine am_iconst (i := 0) (v := 0) rfl iX2_init_5 ?_
  refine am_putI iX2_init_6 fX2_init_9 rfl hk rfl ?_
  refine am_aload_n iX2_init_9 rfl rfl ?_
  refine am_iconst (i := -1) (v := -1) rfl iX2_init_10 ?_
  refine am_putI iX2_init_11 fX2_init_15 rfl hk rfl ?_
  refine am_aload_n iX2_init_14 rfl rfl ?_
  refine am_iconst (i := -1) (v := -1) rfl iX2_init_15 ?_
  refine am_putI iX2_init_16 fX2_init_18 rfl hk rfl ?_
  refine am_aload_n iX2_init_19 rfl rfl ?_
  refine am_iload_n iX2_init_20 rfl rfl ?_
  refine am_putI iX2_init_21 fX2_init_21 (by decide +kernel) hk rfl ?_
  refine am_aload_n iX2_init_24 rfl rfl ?_
  refine am_lload_n iX2_init_25 rfl rfl ?_
  refine am_putJ iX2_init_26 fX2_init_24 (by decide +kernel) hk rfl ?_
  refine am_aload_n iX2_init_29 rfl rfl ?_
  refine am_iload iX2_init_30 rfl ?_
  refine am_putI iX2_init_32 fX2_init_28 (by decide +kernel) hk rfl ?_
  refine am_aload_n iX2_init_35 rfl rfl ?_
  refine am_iload iX2_init_36 rfl ?_
  refine am_putI iX2_init_38 fX2_init_31 (by decide +kernel) hk rfl ?_
  refine am_aload_n iX2_init_41 rfl rfl ?_
  refine am_iload iX2_init_42 rfl ?_
  refine am_putI iX2_init_44 fX2_init_34 (by decide +kernel) hk rfl ?_
  refine am_aload_n iX2_init_47 rfl rfl ?_
  refine am_iload iX2_init_48 rfl ?_
  refine am_putI iX2_init_50 fX2_init_37 (by decide +kernel) hk rfl ?_
  exact am_vret iX2_init_53 rfl (⟨rfl, rfl⟩)
theorem am_setI_s {a j : Nat} {v : Int32} : am_I (am_setI m a j v) a j = v := if_pos ⟨rfl, rfl⟩
theorem am_setI_n {a b j i : Nat} {v : Int32} (h : i ≠ j) : am_I (am_setI m a j v) b i = am_I m b i := if_neg (fun z => h z.2)
theorem am_setJ_I {a b j i : Nat} {v : Int64} : am_I (am_setJ m a j v) b i = am_I m b i := rfl
theorem c_Rd_I {a : Nat} {s b dl kd q : Int32} {t : Int64} : am_I (c_Rd m a s t b dl kd q) a 0 = s ∧ am_I (c_Rd m a s t b dl kd q) a 1 = b ∧ am_I (c_Rd m a s t b dl kd q) a 2 = dl ∧ am_I (c_Rd m a s t b dl kd q) a 3 = kd ∧ am_I (c_Rd m a s t b dl kd q) a 4 = q ∧ am_I (c_Rd m a s t b dl kd q) a 6 = 0 ∧ am_I (c_Rd m a s t b dl kd q) a 7 = -1 ∧ am_I (c_Rd m a s t b dl kd q) a 8 = -1 := by
  unfold c_Rd
  refine ⟨?_, ?_, ?_, ?_, ?_, ?_, ?_, ?_⟩
  · rw [am_setI_n (by decide), am_setI_n (by decide), am_setI_n (by decide), am_setI_n (by decide), am_setJ_I, am_setI_s]
  · rw [am_setI_n (by decide), am_setI_n (by decide), am_setI_n (by decide), am_setI_s]
  · rw [am_setI_n (by decide), am_setI_n (by decide), am_setI_s]
  · rw [am_setI_n (by decide), am_setI_s]
  · rw [am_setI_s]
  · rw [am_setI_n (by decide), am_setI_n (by decide), am_setI_n (by decide), am_setI_n (by decide), am_setJ_I, am_setI_n (by decide), am_setI_n (by decide), am_setI_n (by decide), am_setI_s]
  · rw [am_setI_n (by decide), am_setI_n (by decide), am_setI_n (by decide), am_setI_n (by decide), am_setJ_I, am_setI_n (by decide), am_setI_n (by decide), am_setI_s]
  · rw [am_setI_n (by decide), am_setI_n (by decide), am_setI_n (by decide), am_setI_n (by decide), am_setJ_I, am_setI_n (by decide), am_setI_s]
theorem c_Rd_J {a j : Nat} {s b dl kd q : Int32} {t : Int64} : am_J (c_Rd m a s t b dl kd q) a j = if j = 5 then t else am_J m a j := by
  show (if a = a ∧ j = 5 then t else am_J m a j) = _
  by_cases h : j = 5
  · rw [if_pos ⟨rfl, h⟩, if_pos h]
  · rw [if_neg (fun z => h z.2), if_neg h]
theorem cvI17 {k j : Nat} {q : Nat × Nat} (h : cvI 17 k j = some q) : (j = 0 ∧ q = (24, k)) ∨ (j = 1 ∧ q = (26, k)) ∨ (j = 2 ∧ q = (36, k)) ∨ (j = 3 ∧ q = (29, k)) ∨ (j = 4 ∧ q = (30, k)) ∨ (j = 6 ∧ q = (23, k)) ∨ (j = 7 ∧ q = (31, k)) ∨ (j = 8 ∧ q = (34, k)) := by
  have h : (match (generalizing := false) j with | 0 => some (24, k) | 1 => some (26, k) | 2 => some (36, k) | 3 => some (29, k) | 4 => some (30, k) | 6 => some (23, k) | 7 => some (31, k) | 8 => some (34, k) | _ => none) = some q := h
  split at h
  · exact Or.inl ⟨rfl, (Option.some.inj h).symm⟩
  · exact Or.inr (Or.inl ⟨rfl, (Option.some.inj h).symm⟩)
  · exact Or.inr (Or.inr (Or.inl ⟨rfl, (Option.some.inj h).symm⟩))
  · exact Or.inr (Or.inr (Or.inr (Or.inl ⟨rfl, (Option.some.inj h).symm⟩)))
  · exact Or.inr (Or.inr (Or.inr (Or.inr (Or.inl ⟨rfl, (Option.some.inj h).symm⟩))))
  · exact Or.inr (Or.inr (Or.inr (Or.inr (Or.inr (Or.inl ⟨rfl, (Option.some.inj h).symm⟩)))))
  · exact Or.inr (Or.inr (Or.inr (Or.inr (Or.inr (Or.inr (Or.inl ⟨rfl, (Option.some.inj h).symm⟩))))))
  · exact Or.inr (Or.inr (Or.inr (Or.inr (Or.inr (Or.inr (Or.inr ⟨rfl, (Option.some.inj h).symm⟩))))))
  · cases h
theorem cvJ17 {k j : Nat} {q : Nat × Nat} (h : cvJ 17 k j = some q) : (j = 5 ∧ q = (36, k)) ∨ (j = 9 ∧ q = (32, k)) ∨ (j = 10 ∧ q = (33, k)) := by
  have h : (match (generalizing := false) j with | 5 => some (36, k) | 9 => some (32, k) | 10 => some (33, k) | _ => none) = some q := h
  split at h
  · exact Or.inl ⟨rfl, (Option.some.inj h).symm⟩
  · exact Or.inr (Or.inl ⟨rfl, (Option.some.inj h).symm⟩)
  · exact Or.inr (Or.inr ⟨rfl, (Option.some.inj h).symm⟩)
  · cases h
theorem ci17 (k : Nat) : ciI (24, k) = (17, k, 0) ∧ ciI (26, k) = (17, k, 1) ∧ ciI (36, k) = (17, k, 2) ∧ ciI (29, k) = (17, k, 3) ∧ ciI (30, k) = (17, k, 4) ∧ ciI (23, k) = (17, k, 6) ∧ ciI (31, k) = (17, k, 7) ∧ ciI (34, k) = (17, k, 8) := ⟨rfl, rfl, rfl, rfl, rfl, rfl, rfl, rfl⟩
theorem ci00 (k : Nat) : ciI (25, k) = (0, 0, 0) ∧ ciI (27, k) = (0, 0, 0) ∧ ciI (28, k) = (0, 0, 0) := ⟨rfl, rfl, rfl⟩
theorem cj17 (k : Nat) : ciJ (36, k) = (17, k, 5) ∧ ciJ (32, k) = (17, k, 9) ∧ ciJ (33, k) = (17, k, 10) := ⟨rfl, rfl, rfl⟩
theorem yI_ge {o i : Nat} : yI X E (35 + o, i) = E.1 o i := by
  unfold yI
  rw [if_neg (by show ¬ 35 + o < 35; omega)]
  show E.1 (35 + o - 35) i = _
  rw [show 35 + o - 35 = o by omega]
theorem yJ_lt {o i : Nat} (h : o < 35) : yJ X E (o, i) = X.2 o i := if_pos h
theorem yJ_ge {o i : Nat} : yJ X E (35 + o, i) = E.2 o i := by
  unfold yJ
  rw [if_neg (by show ¬ 35 + o < 35; omega)]
  show E.2 (35 + o - 35) i = _
  rw [show 35 + o - 35 = o by omega]
section
variable {s : Nat} {t : Int64} {b p kd q dl : Int32}
theorem ask_h2 (z : Nat × Nat) (h0 : (ciI z).1 ≠ 0) (hq : ¬ ((ciI z).1 = 17 ∧ (ciI z).2.1 = N)) : yI (xU (x_ask0 X N s t b p kd q) 23 N 0) (xV (xU E 1 N dl) 1 N t) z = yI X E z := by
  obtain ⟨o, i⟩ := z
  obtain ⟨k0, k1, k2, k3, k4, k5, k6, k7⟩ := ci17 N
  have ne : ∀ o' j', ciI (o', N) = (17, N, j') → i = N → o ≠ o' := by
    intro o' j' h1 h2 h3
    rw [h3, h2, h1] at hq
    exact hq ⟨rfl, rfl⟩
  have nz : ∀ o', ciI (o', i) = (0, 0, 0) → o ≠ o' := by
    intro o' h1 h2
    rw [h2, h1] at h0
    exact h0 rfl
  by_cases ho : o < 35
  · rw [yI_lt ho, yI_lt ho]
    by_cases hi : i = N
    · rw [xU_o _ _ (ne 23 _ k5 hi), x_ask0_o _ _ _ _ _ _ _ _ (ne 24 _ k0 hi) (nz 25 (ci00 i).1) (ne 26 _ k1 hi) (nz 27 (ci00 i).2.1) (nz 28 (ci00 i).2.2) (ne 29 _ k3 hi) (ne 30 _ k4 hi) (ne 31 _ k6 hi) (ne 34 _ k7 hi)]
    · rw [xU_j _ _ hi, x_ask0_j _ _ _ _ _ _ _ _ hi (nz 25 (ci00 i).1)]
  · obtain ⟨o', rfl⟩ : ∃ o', o = 35 + o' := ⟨o - 35, by omega⟩
    rw [yI_ge, yI_ge]
    show (xU E 1 N dl).1 o' i = E.1 o' i
    by_cases hi : i = N
    · exact xU_o _ _ (fun z => ne 36 _ k2 hi (by omega))
    · exact xU_j _ _ hi
theorem ask_h3 (z : Nat × Nat) (hq : ¬ ((ciJ z).1 = 17 ∧ (ciJ z).2.1 = N)) : yJ (xU (x_ask0 X N s t b p kd q) 23 N 0) (xV (xU E 1 N dl) 1 N t) z = yJ X E z := by
  obtain ⟨o, i⟩ := z
  obtain ⟨k0, k1, k2⟩ := cj17 N
  have ne : ∀ o' j', ciJ (o', N) = (17, N, j') → i = N → o ≠ o' := by
    intro o' j' h1 h2 h3
    rw [h3, h2, h1] at hq
    exact hq ⟨rfl, rfl⟩
  by_cases ho : o < 35
  · rw [yJ_lt ho, yJ_lt ho]
    show (x_ask0 X N s t b p kd q).2 o i = _
    rw [x_ask0_J]
    by_cases hi : i = N
    · rw [xV_o _ _ (ne 33 _ k2 hi), xV_o _ _ (ne 32 _ k1 hi)]
    · rw [xV_j _ _ hi, xV_j _ _ hi]
  · obtain ⟨o', rfl⟩ : ∃ o', o = 35 + o' := ⟨o - 35, by omega⟩
    rw [yJ_ge, yJ_ge]
    by_cases hi : i = N
    · rw [xV_o _ _ (fun z => ne 36 _ k0 hi (by omega))]
      rfl
    · rw [xV_j _ _ hi]
      rfl
theorem cm_adR {c : Nat} (hc : (co G c).1 = 0) (f17 : ∀ z, co G z ≠ (17, N)) (hI : am_I m c 0 = nI s ∧ am_I m c 1 = b ∧ am_I m c 2 = dl ∧ am_I m c 3 = kd ∧ am_I m c 4 = q ∧ am_I m c 6 = 0 ∧ am_I m c 7 = -1 ∧ am_I m c 8 = -1) (hJ : am_J m c 5 = t ∧ am_J m c 9 = 0 ∧ am_J m c 10 = 0) :
    cm m G X E = cm m (c_ad G c 17 N) (xU (x_ask0 X N s t b p kd q) 23 N 0) (xV (xU E 1 N dl) 1 N t) := by
  obtain ⟨i0, i1, i2, i3, i4, i6, i7, i8⟩ := hI
  obtain ⟨j5, j9, j10⟩ := hJ
  refine cm_ad hc f17 (fun j z hz => ?_) (fun j z hz => ?_) ask_h2 (fun z _ h => ask_h3 z h)
  · rcases cvI17 hz with ⟨rfl, rfl⟩ | ⟨rfl, rfl⟩ | ⟨rfl, rfl⟩ | ⟨rfl, rfl⟩ | ⟨rfl, rfl⟩ | ⟨rfl, rfl⟩ | ⟨rfl, rfl⟩ | ⟨rfl, rfl⟩
    · rw [yI_lt (by decide), xU_o _ _ (by decide), x_ask0_24, i0]
    · rw [yI_lt (by decide), xU_o _ _ (by decide), x_ask0_26, i1]
    · rw [show (36 : Nat) = 35 + 1 from rfl, yI_ge, i2]
      exact xU_s _ _ _ _
    · rw [yI_lt (by decide), xU_o _ _ (by decide), x_ask0_29, i3]
    · rw [yI_lt (by decide), xU_o _ _ (by decide), x_ask0_30, i4]
    · rw [yI_lt (by decide), xU_s, i6]
    · rw [yI_lt (by decide), xU_o _ _ (by decide), x_ask0_31, i7]
    · rw [yI_lt (by decide), xU_o _ _ (by decide), x_ask0_34, i8]
  · rcases cvJ17 hz with ⟨rfl, rfl⟩ | ⟨rfl, rfl⟩ | ⟨rfl, rfl⟩
    · rw [show (36 : Nat) = 35 + 1 from rfl, yJ_ge, xV_s, j5]
    · rw [yJ_lt (by decide)]
      show (x_ask0 X N s t b p kd q).2 32 N = _
      rw [x_ask0_J, xV_o _ _ (by decide), xV_s, j9]
    · rw [yJ_lt (by decide)]
      show (x_ask0 X N s t b p kd q).2 33 N = _
      rw [x_ask0_J, xV_s, j10]
theorem cm_visR (f17 : ∀ z, co G z ≠ (17, N)) : cm m G X E = cm m G (x_ask0 X N s t b p kd q) E := by
  have h : ∀ z, (ciI z).1 ≠ 0 → ¬ ((ciI z).1 = 17 ∧ (ciI z).2.1 = N) → yI (x_ask0 X N s t b p kd q) E z = yI X E z := by
    intro z h0 hq
    have e := ask_h2 (X := X) (E := E) (N := N) (s := s) (t := t) (b := b) (p := p) (kd := kd) (q := q) (dl := E.1 1 N) z h0 hq
    obtain ⟨o, i⟩ := z
    by_cases ho : o < 35
    · rw [yI_lt ho] at e ⊢
      rw [← e]
      by_cases c : o = 23 ∧ i = N
      · obtain ⟨rfl, rfl⟩ := c
        rw [(ci17 i).2.2.2.2.2.1] at hq
        exact absurd ⟨rfl, rfl⟩ hq
      · exact (if_neg c).symm
    · unfold yI
      rw [if_neg ho, if_neg ho]
  refine cm_vis f17 h (fun z h0 hq => ?_)
  have e := ask_h3 (X := X) (E := E) (N := N) (s := s) (t := t) (b := b) (p := p) (kd := kd) (q := q) (dl := E.1 1 N) z hq
  obtain ⟨o, i⟩ := z
  by_cases ho : o < 35
  · rw [yJ_lt ho] at e ⊢
    exact e
  · unfold yJ
    rw [if_neg ho, if_neg ho]
end
end
