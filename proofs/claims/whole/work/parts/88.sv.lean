/-! class, reference and the row of the answer, side by side -/
section
variable {sc : Nat × (Nat → Int32)} {m m2 mm : am_Mem} {G G2 : cg_G} {X X2 E : ms_X} {P R N T M O C : Nat} {t : Int32} {w : Int64}
/-- the reference's cells hold X -/
def RX (m : am_Mem) (M : Nat) (X : ms_X) : Prop := ∀ o, o < 35 → ∀ j, am_I m (M + o) j = X.1 o j ∧ am_J m (M + o) j = X.2 o j
theorem RX.eq (h : RX m M X) : m = xm m M X := by
  have hI : am_reg M X.1 m.2.2.2.1 = m.2.2.2.1 := by
    funext a j
    unfold am_reg
    split
    · rename_i h1
      have := (h (a - M) (by omega) j).1
      rw [show M + (a - M) = a by omega] at this
      exact this.symm
    · rfl
  have hJ : am_reg M X.2 m.2.2.2.2.1 = m.2.2.2.2.1 := by
    funext a j
    unfold am_reg
    split
    · rename_i h1
      have := (h (a - M) (by omega) j).2
      rw [show M + (a - M) = a by omega] at this
      exact this.symm
    · rfl
  show m = (m.1, m.2.1, m.2.2.1, am_reg M X.1 m.2.2.2.1, am_reg M X.2 m.2.2.2.2.1, m.2.2.2.2.2)
  rw [hI, hJ]
theorem RX.of (m : am_Mem) (M : Nat) (X : ms_X) : RX (xm m M X) M X := by
  intro o ho j
  have e : M + o - M = o := by omega
  constructor
  · show (if M ≤ M + o ∧ M + o < M + 35 then X.1 (M + o - M) j else m.2.2.2.1 (M + o) j) = _
    rw [if_pos (by omega), e]
  · show (if M ≤ M + o ∧ M + o < M + 35 then X.2 (M + o - M) j else m.2.2.2.2.1 (M + o) j) = _
    rw [if_pos (by omega), e]
theorem am_reg_reg {α : Type} (M : Nat) (X Y I : Nat → Nat → α) : am_reg M Y (am_reg M X I) = am_reg M Y I := by
  funext a j
  unfold am_reg
  split <;> rfl
theorem xm_xm (m : am_Mem) (M : Nat) (X Y : ms_X) : xm (xm m M X) M Y = xm m M Y := by
  show (m.1, m.2.1, m.2.2.1, am_reg M Y.1 (am_reg M X.1 m.2.2.2.1), am_reg M Y.2 (am_reg M X.2 m.2.2.2.2.1), m.2.2.2.2.2) = _
  rw [am_reg_reg, am_reg_reg]
  rfl
theorem c_ov_reg {α : Type} {cv : Nat → Nat → Nat → Option (Nat × Nat)} {Y : Nat × Nat → α} {A I : Nat → Nat → α} (h0 : ∀ n j, cv 0 n j = none) (hu : ∀ o, o < 35 → (co G (M + o)).1 = 0) : am_reg M A (c_ov G.1 cv Y I) = c_ov G.1 cv Y (am_reg M A I) := by
  funext a j
  unfold am_reg
  by_cases h : M ≤ a ∧ a < M + 35
  · have h1 : cv (G.1 a).1 (G.1 a).2 j = none := by
      have := hu (a - M) (by omega)
      rw [show M + (a - M) = a by omega] at this
      rw [show (G.1 a).1 = 0 from this]
      exact h0 _ _
    rw [if_pos h, c_ov_n h1, if_pos h]
  · rw [if_neg h]
    unfold c_ov
    split
    · rfl
    · exact (if_neg h).symm
theorem xm_cm (hu : ∀ o, o < 35 → (co G (M + o)).1 = 0) (Y : ms_X) : xm (cm m G X E) M Y = cm (xm m M Y) G X E := by
  show (m.1, m.2.1, m.2.2.1, am_reg M Y.1 (c_ov G.1 cvI (yI X E) m.2.2.2.1), am_reg M Y.2 (c_ov G.1 cvJ (yJ X E) m.2.2.2.2.1), m.2.2.2.2.2) = _
  rw [c_ov_reg cvI_0 hu, c_ov_reg cvJ_0 hu]
  rfl
/-- what the law has beside the class -/
def SR (m : am_Mem) (G : cg_G) (M O : Nat) (X : ms_X) (C : Nat) : Prop := ca G 1 0 = 1 ∧ RX m M X ∧ LM m M ∧ (∀ o, o < 35 → (co G (M + o)).1 = 0) ∧ M + 35 ≤ O ∧ (am_K m O = 12 ∧ am_L m O = 1 ∧ (co G O).1 = 0 ∧ O ≤ am_n m) ∧ am_n m ≤ 200 + 8 * C ∧ am_u m ≤ 40000 + 64 * C
def SVN (mm : am_Mem) (M O : Nat) (X : ms_X) (P R N T C : Nat) : Prop := ∃ m G E, mm = cm m G X E ∧ INV m G X E P R N T ∧ SR m G M O X C
/-- the class has answered, the reference not yet -/
def SH (mm : am_Mem) (M O : Nat) (X X2 : ms_X) (P R T C : Nat) (w : Int64) (t : Int32) : Prop := ∃ m G E N, mm = cm m G X2 E ∧ INV m G X2 E P R N T ∧ SR m G M O X C ∧ (t = 0 → am_J m O 0 = w)
theorem SR.rm (h : SR m G M O X C) (hC : C ≤ 512) : c_rm m := by
  have h1 := h.2.2.2.2.2.2.1
  have h2 := h.2.2.2.2.2.2.2
  unfold c_rm am_CM am_SM
  omega
theorem SR.next (h : SR m G M O X C) (hf : c_fr m G m2 G2) : SR m2 G2 M O X (C + 1) := by
  obtain ⟨a1, a2, a3, a4, a5, ⟨a6, a7, a8, a9⟩, a10, a11⟩ := h
  obtain ⟨f1, f2, f3, f4, f5⟩ := hf
  have fo : ∀ o, o < 35 → (co G2 (M + o)).1 = 0 ∧ am_K m2 (M + o) = am_K m (M + o) ∧ am_L m2 (M + o) = am_L m (M + o) ∧ ∀ j, am_I m2 (M + o) j = am_I m (M + o) j ∧ am_J m2 (M + o) j = am_J m (M + o) j ∧ am_R m2 (M + o) j = am_R m (M + o) j := fun o ho => f5 (M + o) (by omega) (a4 o ho)
  obtain ⟨fO1, fO2, fO3, -⟩ := f5 O a9 a8
  refine ⟨f4.trans a1, fun o ho j => ?_, ⟨?_, fun o h1 h2 => ?_, fun j hj h1 => ?_⟩, fun o ho => (fo o ho).1, a5, ⟨fO2.trans a6, fO3.trans a7, fO1, by omega⟩, by omega, by omega⟩
  · exact ⟨((fo o ho).2.2.2 j).1.trans (a2 o ho j).1, ((fo o ho).2.2.2 j).2.1.trans (a2 o ho j).2⟩
  · exact (fo 0 (by omega)).2.1.trans a3.1
  · exact ⟨(fo o h2).2.1.trans (a3.2.1 o h1 h2).1, (fo o h2).2.2.1.trans (a3.2.1 o h1 h2).2⟩
  · exact ((fo 0 (by omega)).2.2.2 j).2.2.trans (a3.2.2 j hj h1)
theorem SR.setJ (h : SR m G M O X C) (w : Int64) : SR (am_setJ m O 0 w) G M O X C := by
  obtain ⟨a1, a2, a3, a4, a5, a6, a7⟩ := h
  exact ⟨a1, fun o ho j => ⟨(a2 o ho j).1, (if_neg (fun q => by have := q.1; omega)).trans (a2 o ho j).2⟩, a3, a4, a5, a6, a7⟩
theorem SR.xm (h : SR m G M O X C) (Y : ms_X) : SR (xm m M Y) G M O Y C := by
  obtain ⟨a1, a2, a3, a4, a5, a6, a7⟩ := h
  exact ⟨a1, RX.of m M Y, a3, a4, a5, a6, a7⟩
theorem SH.ref (h : SH mm M O X X2 P R T C w t) : ∃ m', mm = xm m' M X ∧ LM m' M := by
  obtain ⟨m, G, E, N, rfl, -, hR, -⟩ := h
  refine ⟨cm m G X2 E, ?_, hR.2.2.1⟩
  rw [xm_cm hR.2.2.2.1]
  exact congrArg (fun z => cm z G X2 E) hR.2.1.eq
theorem SH.fin (h : SH (xm m M X) M O X X2 P R T C w t) : (∃ N, SVN (xm m M X2) M O X2 P R N T C) ∧ am_K (xm m M X2) O = 12 ∧ am_L (xm m M X2) O = 1 ∧ (t = 0 → am_J (xm m M X2) O 0 = w) := by
  obtain ⟨m', G, E, N, e, hI, hR, hw⟩ := h
  have e2 : xm m M X2 = cm (xm m' M X2) G X2 E := by
    rw [← xm_xm m M X X2, e, xm_cm hR.2.2.2.1]
  have e3 : am_J (xm m M X2) O 0 = am_J m' O 0 := by
    rw [e2]
    show c_ov G.1 cvJ (yJ X2 E) (am_reg M X2.2 m'.2.2.2.2.1) O 0 = m'.2.2.2.2.1 O 0
    have h1 : cvJ (G.1 O).1 (G.1 O).2 0 = none := by
      rw [show (G.1 O).1 = 0 from hR.2.2.2.2.2.1.2.2.1]
      rfl
    rw [c_ov_n h1]
    unfold am_reg
    rw [if_neg (by have := hR.2.2.2.2.1; omega)]
  refine ⟨⟨N, xm m' M X2, G, E, e2, hI, hR.xm X2⟩, ?_, ?_, fun z => e3.trans (hw z)⟩
  · rw [e2]; exact hR.2.2.2.2.2.1.1
  · rw [e2]; exact hR.2.2.2.2.2.1.2.1
theorem SVN.wf (h : SVN mm M O X P R N T C) : x_Wf X P R N := by
  obtain ⟨m, G, E, -, hI, -⟩ := h
  exact hI.2.2.1.1
theorem SVN.r2 (h : SVN mm M O X P R N T C) : ∀ p, p < 3 → x_ix (X.1 2 p) 401 := by
  obtain ⟨m, G, E, -, hI, -⟩ := h
  exact hI.2.2.1.2.1
theorem SVN.mono (h : SVN mm M O X P R N T C) (hT : T + 100 ≤ 1000000) : SVN mm M O X P R N (T + 100) (C + 1) := by
  obtain ⟨m, G, E, e, hI, a1, a2, a3, a4, a5, a6, a7, a8⟩ := h
  exact ⟨m, G, E, e, hI.mono (by omega) hT, a1, a2, a3, a4, a5, a6, by omega, by omega⟩
theorem lg_self (x : Int64) : lg_cmp x x = 0 := lg_eq0.mpr rfl
/-- how a helper ends that has no throw -/
theorem h_end {G : cg_G} (hR : SR m G M O X C) (hp : y_POST m G X2 P R T mm) : ∃ m2 G2 E2 N2, mm = cm m2 G2 X2 E2 ∧ INV m2 G2 X2 E2 P R N2 T ∧ SR m2 G2 M O X (C + 1) := by
  obtain ⟨m2, G2, E2, N2, e, hI, hf⟩ := hp
  exact ⟨m2, G2, E2, N2, e, hI, hR.next hf⟩
theorem am_eS8r {sc : Nat × (Nat → Int32)} {k k2 pc q idx : Nat} {ls rest : List Value} {m : am_Mem} {Q : am_Out → am_Mem → Prop} {v0 v1 v2 v3 v4 v5 v6 v7 : Value} {r : Value} {Pm : am_Mem → Prop} (hd : am_at k pc (.invokestatic idx) 3 q) (hs : am_sS k idx k2) (hm : am_mt k2 8) (hf : Nat.ble (am_fr k2 + 1) (am_fr k) = true) (hlo : Nat.ble (am_cs rest + (am_ml k2 + 11) + am_lo k2) (am_lo k) = true) (hen : Nat.ble (am_en [v0, v1, v2, v3, v4, v5, v6, v7]).length (am_ml k2) = true)
    (h2 : am_W sc k2 0 (am_ent [v0, v1, v2, v3, v4, v5, v6, v7] (am_ml k2)) [] m (am_RE (some r) Pm)) (h : ∀ m2, Pm m2 → am_W sc k q ls (r :: rest) m2 Q) : am_W sc k pc ls (v7 :: v6 :: v5 :: v4 :: v3 :: v2 :: v1 :: v0 :: rest) m Q :=
  am_callS (vs := [v0, v1, v2, v3, v4, v5, v6, v7]) hd hs hm rfl (Nat.le_of_ble_eq_true hf) (Nat.le_of_ble_eq_true hlo) (Nat.le_of_ble_eq_true hen) h2 (fun v m' hq => by obtain ⟨e1, e2⟩ := hq; cases e1; exact h m' e2) (fun a m' hq => by obtain ⟨e1, -⟩ := hq; cases e1)
end
