/-! the reference's cells as one pair of tables: X.1 o j is the int at place j of its o-th cell (0: the object itself), X.2 the longs -/
abbrev ms_X : Type := (Nat → Nat → Int32) × (Nat → Nat → Int64)
def am_reg {α : Type} (M : Nat) (X I : Nat → Nat → α) : Nat → Nat → α := fun a j => if M ≤ a ∧ a < M + 35 then X (a - M) j else I a j
def xm (m : am_Mem) (M : Nat) (X : ms_X) : am_Mem := (m.1, m.2.1, m.2.2.1, am_reg M X.1 m.2.2.2.1, am_reg M X.2 m.2.2.2.2.1, m.2.2.2.2.2)
def xk (o : Nat) : Nat := if o = 13 ∨ o = 32 ∨ o = 33 then 12 else if o = 18 then 13 else 11
def xl (o : Nat) : Nat := [0, 3, 3, 1203, 1203, 1203, 1203, 3609, 240, 240, 240, 240, 2400, 80, 80, 24, 4, 4, 4, 8, 8, 24, 24, 500, 500, 1500, 500, 500, 500, 500, 500, 500, 500, 500, 500].getD o 0
def xof (j : Nat) : Nat := if 4 ≤ j ∧ j ≤ 25 then j - 3 else if 27 ≤ j ∧ j ≤ 38 then j - 4 else 0
def LM (m : am_Mem) (M : Nat) : Prop := am_K m M = 7 ∧ (∀ o, 1 ≤ o → o < 35 → am_K m (M + o) = xk o ∧ am_L m (M + o) = xl o) ∧ ∀ j, j < 39 → xof j ≠ 0 → am_R m M j = M + xof j
def xo (o kd : Nat) : Bool := decide (1 ≤ o) && decide (o < 35) && decide (xk o = kd)
theorem xo_of {o kd : Nat} (h : xo o kd = true) : 1 ≤ o ∧ o < 35 ∧ xk o = kd := by
  simp only [xo, Bool.and_eq_true, decide_eq_true_eq] at h
  exact ⟨h.1.1, h.1.2, h.2⟩
theorem xl_lt (o : Nat) : xl o < 2 ^ 31 := by
  unfold xl
  rw [List.getD_eq_getElem?_getD]
  cases h : ([0, 3, 3, 1203, 1203, 1203, 1203, 3609, 240, 240, 240, 240, 2400, 80, 80, 24, 4, 4, 4, 8, 8, 24, 24, 500, 500, 1500, 500, 500, 500, 500, 500, 500, 500, 500, 500] : List Nat)[o]? with
  | none => decide
  | some v =>
    have h1 : v ∈ ([0, 3, 3, 1203, 1203, 1203, 1203, 3609, 240, 240, 240, 240, 2400, 80, 80, 24, 4, 4, 4, 8, 8, 24, 24, 500, 500, 1500, 500, 500, 500, 500, 500, 500, 500, 500, 500] : List Nat) := List.mem_of_getElem? h
    have h2 : ∀ v ∈ ([0, 3, 3, 1203, 1203, 1203, 1203, 3609, 240, 240, 240, 240, 2400, 80, 80, 24, 4, 4, 4, 8, 8, 24, 24, 500, 500, 1500, 500, 500, 500, 500, 500, 500, 500, 500, 500] : List Nat), v < 2 ^ 31 := by decide
    exact h2 v h1
theorem am_reg_in {α : Type} {M o j : Nat} {X I : Nat → Nat → α} (h : o < 35) : am_reg M X I (M + o) j = X o j := by
  unfold am_reg
  rw [if_pos ⟨by omega, by omega⟩, show M + o - M = o by omega]
theorem am_reg_put {α : Type} {M o j : Nat} {v : α} {X I : Nat → Nat → α} (h : o < 35) : am_put (am_reg M X I) (M + o) j v = am_reg M (am_put X o j v) I := by
  funext a i
  unfold am_put am_reg
  by_cases ha : M ≤ a ∧ a < M + 35
  · rw [if_pos ha, if_pos ha]
    dsimp only
    by_cases hc : a = M + o ∧ i = j
    · have h2 : a - M = o ∧ i = j := ⟨by omega, hc.2⟩
      rw [if_pos hc, if_pos h2]
    · have h2 : ¬ (a - M = o ∧ i = j) := fun q => hc ⟨by omega, q.2⟩
      rw [if_neg hc, if_neg h2]
  · rw [if_neg ha, if_neg ha, if_neg (fun q => ha ⟨by omega, by omega⟩)]
theorem xm_setI {m : am_Mem} {M o j : Nat} {X : ms_X} {v : Int32} (h : o < 35) : am_setI (xm m M X) (M + o) j v = xm m M (am_put X.1 o j v, X.2) := by
  show (m.1, m.2.1, m.2.2.1, am_put (am_reg M X.1 m.2.2.2.1) (M + o) j v, am_reg M X.2 m.2.2.2.2.1, m.2.2.2.2.2) = _
  rw [am_reg_put h]
  rfl
theorem xm_setJ {m : am_Mem} {M o j : Nat} {X : ms_X} {v : Int64} (h : o < 35) : am_setJ (xm m M X) (M + o) j v = xm m M (X.1, am_put X.2 o j v) := by
  show (m.1, m.2.1, m.2.2.1, am_reg M X.1 m.2.2.2.1, am_put (am_reg M X.2 m.2.2.2.2.1) (M + o) j v, m.2.2.2.2.2) = _
  rw [am_reg_put h]
  rfl
theorem xm_I {m : am_Mem} {M o j : Nat} {X : ms_X} (h : o < 35) : am_I (xm m M X) (M + o) j = X.1 o j := am_reg_in h
theorem xm_J {m : am_Mem} {M o j : Nat} {X : ms_X} (h : o < 35) : am_J (xm m M X) (M + o) j = X.2 o j := am_reg_in h
def xU (X : ms_X) (o i : Nat) (v : Int32) : ms_X := (am_put X.1 o i v, X.2)
def xV (X : ms_X) (o i : Nat) (v : Int64) : ms_X := (X.1, am_put X.2 o i v)
theorem xU_s (X : ms_X) (o i : Nat) (v : Int32) : (xU X o i v).1 o i = v := if_pos ⟨rfl, rfl⟩
theorem xU_o (X : ms_X) {o i a j : Nat} (v : Int32) (h : a ≠ o) : (xU X o i v).1 a j = X.1 a j := if_neg (fun q => h q.1)
theorem xU_j (X : ms_X) {o i a j : Nat} (v : Int32) (h : j ≠ i) : (xU X o i v).1 a j = X.1 a j := if_neg (fun q => h q.2)
theorem xU_J (X : ms_X) (o i : Nat) (v : Int32) : (xU X o i v).2 = X.2 := rfl
theorem xV_s (X : ms_X) (o i : Nat) (v : Int64) : (xV X o i v).2 o i = v := if_pos ⟨rfl, rfl⟩
theorem xV_o (X : ms_X) {o i a j : Nat} (v : Int64) (h : a ≠ o) : (xV X o i v).2 a j = X.2 a j := if_neg (fun q => h q.1)
theorem xV_j (X : ms_X) {o i a j : Nat} (v : Int64) (h : j ≠ i) : (xV X o i v).2 a j = X.2 a j := if_neg (fun q => h q.2)
theorem xV_I (X : ms_X) (o i : Nat) (v : Int64) : (xV X o i v).1 = X.1 := rfl
section XR
variable {sc : Nat × (Nat → Int32)} {k pc q : Nat} {ls st : List Value} {m : am_Mem} {M : Nat} {X : ms_X} {Q : am_Out → am_Mem → Prop}
theorem x_getI {idx j : Nat} (hM : LM m M) (hd : am_at k pc (.getfield idx) 3 q) (hf : am_fld k idx 7 j 0) (h : am_W sc k q ls (.int (X.1 0 j) :: st) (xm m M X) Q) : am_W sc k pc ls (.ref M :: st) (xm m M X) Q := by
  refine am_getf hd hf hM.1 ?_
  show am_W sc k q ls (.int (am_I (xm m M X) (M + 0) j) :: st) (xm m M X) Q
  rw [xm_I (by decide)]
  exact h
theorem x_getR {idx j : Nat} (o : Nat) (hM : LM m M) (hd : am_at k pc (.getfield idx) 3 q) (hf : am_fld k idx 7 j 2) (hj : decide (j < 39) = true) (ho : xof j = o) (h0 : decide (o ≠ 0) = true) (h : am_W sc k q ls (.ref (M + o) :: st) (xm m M X) Q) : am_W sc k pc ls (.ref M :: st) (xm m M X) Q := by
  refine am_getf hd hf hM.1 ?_
  show am_W sc k q ls (.ref (am_R m M j) :: st) (xm m M X) Q
  rw [hM.2.2 j (of_decide_eq_true hj) (by rw [ho]; exact of_decide_eq_true h0), ho]
  exact h
theorem x_putI {idx j : Nat} {v : Int32} (hM : LM m M) (hd : am_at k pc (.putfield idx) 3 q) (hf : am_fld k idx 7 j 0) (hpf : am_pf k 7 j = true) (hty : am_ty 7 j = .int) (h : am_W sc k q ls st (xm m M (xU X 0 j v)) Q) : am_W sc k pc ls (.int v :: .ref M :: st) (xm m M X) Q := by
  refine am_putI hd hf hpf hM.1 hty ?_
  show am_W sc k q ls st (am_setI (xm m M X) (M + 0) j v) Q
  rw [xm_setI (by decide)]
  exact h
theorem x_iald {o : Nat} {x : Int32} (n : Nat) (hM : LM m M) (ho : xo o 11 = true) (hd : am_at k pc .iaload 1 q) (hx : x = nI n) (hn : n < xl o) (h : am_W sc k q ls (.int (X.1 o n) :: st) (xm m M X) Q) : am_W sc k pc ls (.int x :: .ref (M + o) :: st) (xm m M X) Q := by
  obtain ⟨h1, h2, h3⟩ := xo_of ho
  subst hx
  refine am_iald hd ((hM.2.1 o h1 h2).1.trans h3) (show vp_in (nI n) (am_L m (M + o)) by rw [(hM.2.1 o h1 h2).2]; exact vp_in_nI hn (xl_lt o)) ?_
  rw [xm_I h2, nI_clamp (Nat.lt_trans hn (xl_lt o))]
  exact h
theorem x_zald {o : Nat} {x : Int32} (n : Nat) (hM : LM m M) (ho : xo o 13 = true) (hd : am_at k pc .baload 1 q) (hx : x = nI n) (hn : n < xl o) (h : am_W sc k q ls (.int (X.1 o n) :: st) (xm m M X) Q) : am_W sc k pc ls (.int x :: .ref (M + o) :: st) (xm m M X) Q := by
  obtain ⟨h1, h2, h3⟩ := xo_of ho
  subst hx
  refine am_zald hd ((hM.2.1 o h1 h2).1.trans h3) (show vp_in (nI n) (am_L m (M + o)) by rw [(hM.2.1 o h1 h2).2]; exact vp_in_nI hn (xl_lt o)) ?_
  rw [xm_I h2, nI_clamp (Nat.lt_trans hn (xl_lt o))]
  exact h
theorem x_lald {o : Nat} {x : Int32} (n : Nat) (hM : LM m M) (ho : xo o 12 = true) (hd : am_at k pc .laload 1 q) (hx : x = nI n) (hn : n < xl o) (h : am_W sc k q ls (.long (X.2 o n) :: st) (xm m M X) Q) : am_W sc k pc ls (.int x :: .ref (M + o) :: st) (xm m M X) Q := by
  obtain ⟨h1, h2, h3⟩ := xo_of ho
  subst hx
  refine am_lald hd ((hM.2.1 o h1 h2).1.trans h3) (show vp_in (nI n) (am_L m (M + o)) by rw [(hM.2.1 o h1 h2).2]; exact vp_in_nI hn (xl_lt o)) ?_
  rw [xm_J h2, nI_clamp (Nat.lt_trans hn (xl_lt o))]
  exact h
theorem x_iast {o : Nat} {x y : Int32} (n : Nat) (hM : LM m M) (ho : xo o 11 = true) (hd : am_at k pc .iastore 1 q) (hx : x = nI n) (hn : n < xl o) (h : am_W sc k q ls st (xm m M (xU X o n y)) Q) : am_W sc k pc ls (.int y :: .int x :: .ref (M + o) :: st) (xm m M X) Q := by
  obtain ⟨h1, h2, h3⟩ := xo_of ho
  subst hx
  refine am_iast hd ((hM.2.1 o h1 h2).1.trans h3) (show vp_in (nI n) (am_L m (M + o)) by rw [(hM.2.1 o h1 h2).2]; exact vp_in_nI hn (xl_lt o)) ?_
  rw [xm_setI h2, nI_clamp (Nat.lt_trans hn (xl_lt o))]
  exact h
theorem x_zast {o : Nat} {x y : Int32} (n : Nat) (hM : LM m M) (ho : xo o 13 = true) (hd : am_at k pc .bastore 1 q) (hx : x = nI n) (hn : n < xl o) (hy : y = 0 ∨ y = 1) (h : am_W sc k q ls st (xm m M (xU X o n y)) Q) : am_W sc k pc ls (.int y :: .int x :: .ref (M + o) :: st) (xm m M X) Q := by
  obtain ⟨h1, h2, h3⟩ := xo_of ho
  subst hx
  have e9 : vp_nar .boolean y = y := by rcases hy with rfl | rfl <;> rfl
  refine am_zast hd ((hM.2.1 o h1 h2).1.trans h3) (show vp_in (nI n) (am_L m (M + o)) by rw [(hM.2.1 o h1 h2).2]; exact vp_in_nI hn (xl_lt o)) ?_
  rw [e9, xm_setI h2, nI_clamp (Nat.lt_trans hn (xl_lt o))]
  exact h
theorem x_last {o : Nat} {x : Int32} {y : Int64} (n : Nat) (hM : LM m M) (ho : xo o 12 = true) (hd : am_at k pc .lastore 1 q) (hx : x = nI n) (hn : n < xl o) (h : am_W sc k q ls st (xm m M (xV X o n y)) Q) : am_W sc k pc ls (.long y :: .int x :: .ref (M + o) :: st) (xm m M X) Q := by
  obtain ⟨h1, h2, h3⟩ := xo_of ho
  subst hx
  refine am_last hd ((hM.2.1 o h1 h2).1.trans h3) (show vp_in (nI n) (am_L m (M + o)) by rw [(hM.2.1 o h1 h2).2]; exact vp_in_nI hn (xl_lt o)) ?_
  rw [xm_setJ h2, nI_clamp (Nat.lt_trans hn (xl_lt o))]
  exact h
end XR
