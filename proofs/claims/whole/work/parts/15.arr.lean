/-! arrays, new cells -/
theorem am_tys_at (cy : Nat → ClassId) {j : Nat} (h : j < 8) : (am_tys cy)[j]? = some (cy (11 + j), am_an j) := by
  simp [am_tys, h]
def am_cs (st : List Value) : Nat := (st.map (fun v => v.category)).sum
theorem am_cs_sh (base b : Nat) (st : List Value) : ((st.map (am_sh base b)).map (fun v => v.category)).sum = am_cs st := by
  unfold am_cs
  rw [List.map_map]
  congr 1
  apply List.map_congr_left
  intro v _
  exact am_sh_cat base b v
theorem am_ac_i {base : Nat} {m : am_Mem} {a kd : Nat} (h : am_K m a = kd) (h1 : kd ≠ 12) (h2 : kd < 14) : am_ac base m a = .inl (am_I m a) := by
  unfold am_ac
  rw [h, if_neg h1, if_pos h2]
theorem am_ac_j {base : Nat} {m : am_Mem} {a : Nat} (h : am_K m a = 12) : am_ac base m a = .inr (.inl (am_J m a)) := by
  unfold am_ac
  rw [h, if_pos rfl]
theorem am_ac_r {base : Nat} {m : am_Mem} {a kd : Nat} (h : am_K m a = kd) (h2 : 14 ≤ kd) : am_ac base m a = .inr (.inr (.inr (.inr (fun j => am_ro base (am_R m a j))))) := by
  unfold am_ac
  rw [h, if_neg (by omega), if_neg (by omega)]
theorem am_iald {sc : Nat × (Nat → Int32)} {k pc q : Nat} {ls st : List Value} {m : am_Mem} {Q : am_Out → am_Mem → Prop} {a : Nat} {x : Int32} (hd : am_at k pc .iaload 1 q) (hk : am_K m a = 11) (hx : vp_in x (am_L m a)) (h : am_W sc k q ls (.int (am_I m a x.toNatClampNeg) :: st) m Q) : am_W sc k pc ls (.int x :: .ref a :: st) m Q := by
  obtain ⟨hd, rfl⟩ := hd
  intro p l e base b D cy R s mid args below meth c H locs cells slots la C hla
  obtain ⟨hP, -, hO⟩ := C.2.2.2.2.2.2.1
  obtain ⟨i, rfl, hi⟩ := am_K_ix hO hk (by decide)
  have he := am_ws_get (base := base) (cy := cy) hi
  rw [am_cell_a hk (by decide), am_ac_i hk (by decide) (by decide)] at he
  exact va_iald (rest := st.map (am_sh base b)) C.1 (am_C.b C) C.2.2.1.2.2.2.2.1 hP i 0 he (am_tys_at cy (by decide)) hx hd (h p l e base b D cy R s mid args below meth c H locs cells slots la C hla)
theorem am_zald {sc : Nat × (Nat → Int32)} {k pc q : Nat} {ls st : List Value} {m : am_Mem} {Q : am_Out → am_Mem → Prop} {a : Nat} {x : Int32} (hd : am_at k pc .baload 1 q) (hk : am_K m a = 13) (hx : vp_in x (am_L m a)) (h : am_W sc k q ls (.int (am_I m a x.toNatClampNeg) :: st) m Q) : am_W sc k pc ls (.int x :: .ref a :: st) m Q := by
  obtain ⟨hd, rfl⟩ := hd
  intro p l e base b D cy R s mid args below meth c H locs cells slots la C hla
  obtain ⟨hP, -, hO⟩ := C.2.2.2.2.2.2.1
  obtain ⟨i, rfl, hi⟩ := am_K_ix hO hk (by decide)
  have he := am_ws_get (base := base) (cy := cy) hi
  rw [am_cell_a hk (by decide), am_ac_i hk (by decide) (by decide)] at he
  exact va_zald (rest := st.map (am_sh base b)) C.1 (am_C.b C) C.2.2.1.2.2.2.2.1 hP i 2 he (am_tys_at cy (by decide)) hx hd (h p l e base b D cy R s mid args below meth c H locs cells slots la C hla)
theorem am_lald {sc : Nat × (Nat → Int32)} {k pc q : Nat} {ls st : List Value} {m : am_Mem} {Q : am_Out → am_Mem → Prop} {a : Nat} {x : Int32} (hd : am_at k pc .laload 1 q) (hk : am_K m a = 12) (hx : vp_in x (am_L m a)) (h : am_W sc k q ls (.long (am_J m a x.toNatClampNeg) :: st) m Q) : am_W sc k pc ls (.int x :: .ref a :: st) m Q := by
  obtain ⟨hd, rfl⟩ := hd
  intro p l e base b D cy R s mid args below meth c H locs cells slots la C hla
  obtain ⟨hP, -, hO⟩ := C.2.2.2.2.2.2.1
  obtain ⟨i, rfl, hi⟩ := am_K_ix hO hk (by decide)
  have he := am_ws_get (base := base) (cy := cy) hi
  rw [am_cell_a hk (by decide), am_ac_j hk] at he
  exact va_lald (rest := st.map (am_sh base b)) C.1 (am_C.b C) C.2.2.1.2.2.2.2.1 hP i 1 he (am_tys_at cy (by decide)) hx hd (h p l e base b D cy R s mid args below meth c H locs cells slots la C hla)
theorem am_aald {sc : Nat × (Nat → Int32)} {k pc q : Nat} {ls st : List Value} {m : am_Mem} {Q : am_Out → am_Mem → Prop} {a ci : Nat} {x : Int32} (hd : am_at k pc .aaload 1 q) (hk : am_K m a = 14 + ci) (hci : ci < 5) (hx : vp_in x (am_L m a)) (h : am_W sc k q ls (.ref (am_R m a x.toNatClampNeg) :: st) m Q) : am_W sc k pc ls (.int x :: .ref a :: st) m Q := by
  obtain ⟨hd, rfl⟩ := hd
  intro p l e base b D cy R s mid args below meth c H locs cells slots la C hla
  obtain ⟨hP, -, hO⟩ := C.2.2.2.2.2.2.1
  obtain ⟨i, rfl, hi⟩ := am_K_ix hO hk (by omega)
  have he := am_ws_get (base := base) (cy := cy) hi
  rw [am_cell_a hk (by omega), am_ac_r hk (by omega)] at he
  obtain ⟨Cn, hCn⟩ : ∃ Cn, am_an (3 + ci) = .object Cn := by
    match ci, hci with
    | 0, _ => exact ⟨_, rfl⟩
    | 1, _ => exact ⟨_, rfl⟩
    | 2, _ => exact ⟨_, rfl⟩
    | 3, _ => exact ⟨_, rfl⟩
    | 4, _ => exact ⟨_, rfl⟩
  have ht := am_tys_at cy (j := 3 + ci) (by omega)
  rw [hCn, show 11 + (3 + ci) = 14 + ci by omega] at ht
  refine va_aldq (rest := st.map (am_sh base b)) C.1 (am_C.b C) C.2.2.1.2.2.2.2.1 hP i (3 + ci) he ht hx hd ?_
  rw [am_ro_rv]
  exact h p l e base b D cy R s mid args below meth c H locs cells slots la C hla
theorem am_alen {sc : Nat × (Nat → Int32)} {k pc q : Nat} {ls st : List Value} {m : am_Mem} {Q : am_Out → am_Mem → Prop} {a kd : Nat} (hd : am_at k pc .arraylength 1 q) (hk : am_K m a = kd) (h11 : 11 ≤ kd) (h18 : kd < 19) (h : am_W sc k q ls (.int (nI (am_L m a)) :: st) m Q) : am_W sc k pc ls (.ref a :: st) m Q := by
  obtain ⟨hd, rfl⟩ := hd
  intro p l e base b D cy R s mid args below meth c H locs cells slots la C hla
  obtain ⟨hP, -, hO⟩ := C.2.2.2.2.2.2.1
  obtain ⟨i, rfl, hi⟩ := am_K_ix hO hk (by omega)
  have he := am_ws_get (base := base) (cy := cy) hi
  rw [am_cell_a hk h11] at he
  have ht := am_tys_at cy (j := kd - 11) (by omega)
  rw [show 11 + (kd - 11) = kd by omega] at ht
  exact va_alen (rest := st.map (am_sh base b)) C.1 (am_C.b C) C.2.2.1.2.2.2.2.1 hP i (kd - 11) he ht rfl hd (h p l e base b D cy R s mid args below meth c H locs cells slots la C hla)
/-- the law's own script -/
theorem am_sld {sc : Nat × (Nat → Int32)} {k pc q : Nat} {ls st : List Value} {m : am_Mem} {Q : am_Out → am_Mem → Prop} {x : Int32} (hd : am_at k pc .iaload 1 q) (hx : vp_in x sc.1) (h : am_W sc k q ls (.int (sc.2 x.toNatClampNeg) :: st) m Q) : am_W sc k pc ls (.int x :: .retAddr 0 :: st) m Q := by
  obtain ⟨hd, rfl⟩ := hd
  intro p l e base b D cy R s mid args below meth c H locs cells slots la C hla
  obtain ⟨-, -, -, -, -, hX, hbb, hbs, -⟩ := C.2.2.1
  exact va_sld (rest := st.map (am_sh base b)) C.1 (am_C.b C) hX (Nat.lt_of_lt_of_le hbb hbs) (show ¬ base ≤ b from Nat.not_le.mpr hbb) C.2.2.2.2.2.2.2.1 hx hd (h p l e base b D cy R s mid args below meth c H locs cells slots la C hla)
theorem am_slen {sc : Nat × (Nat → Int32)} {k pc q : Nat} {ls st : List Value} {m : am_Mem} {Q : am_Out → am_Mem → Prop} (hd : am_at k pc .arraylength 1 q) (h : am_W sc k q ls (.int (nI sc.1) :: st) m Q) : am_W sc k pc ls (.retAddr 0 :: st) m Q := by
  obtain ⟨hd, rfl⟩ := hd
  intro p l e base b D cy R s mid args below meth c H locs cells slots la C hla
  obtain ⟨-, -, -, -, -, hX, hbb, hbs, -⟩ := C.2.2.1
  exact va_slen (rest := st.map (am_sh base b)) C.1 (am_C.b C) hX (Nat.lt_of_lt_of_le hbb hbs) (show ¬ base ≤ b from Nat.not_le.mpr hbb) C.2.2.2.2.2.2.2.1 hd (h p l e base b D cy R s mid args below meth c H locs cells slots la C hla)
theorem am_iast {sc : Nat × (Nat → Int32)} {k pc q : Nat} {ls st : List Value} {m : am_Mem} {Q : am_Out → am_Mem → Prop} {a : Nat} {x : Int32} {y : Int32} (hd : am_at k pc .iastore 1 q) (hk : am_K m a = 11) (hx : vp_in x (am_L m a)) (h : am_W sc k q ls st (am_setI m a x.toNatClampNeg y) Q) : am_W sc k pc ls (.int y :: .int x :: .ref a :: st) m Q := by
  obtain ⟨hd, rfl⟩ := hd
  intro p l e base b D cy R s mid args below meth c H locs cells slots la C hla
  obtain ⟨hP, hz0, hO⟩ := C.2.2.2.2.2.2.1
  obtain ⟨i, rfl, hi⟩ := am_K_ix hO hk (by decide)
  have he := am_ws_get (base := base) (cy := cy) hi
  rw [am_cell_a hk (by decide), am_ac_i hk (by decide) (by decide)] at he
  have hws : (am_ws base cy m).set i (base + i, .inl (cy 11, am_L m (i + 1), .inl (upd (am_I m (i + 1)) x.toNatClampNeg y))) = am_ws base cy (am_setI m (i + 1) x.toNatClampNeg y) := by
    refine am_ws_upd rfl (fun c hc => am_cell_congr rfl rfl ?_ ?_ (fun _ => rfl)) ?_
    · first | exact fun _ => rfl | exact fun j => if_neg (fun q => hc q.1)
    · first | exact fun _ => rfl | exact fun j => if_neg (fun q => hc q.1)
    · rw [am_cell_a (m := am_setI m (i + 1) x.toNatClampNeg y) hk (by decide), am_ac_i (m := am_setI m (i + 1) x.toNatClampNeg y) hk (by decide) (by decide)]
      refine congrArg (fun f => (Sum.inl (cy 11, am_L m (i + 1), Sum.inl f) : va_E)) (funext fun j => ?_)
      show (if i + 1 = i + 1 ∧ j = x.toNatClampNeg then y else am_I m (i + 1) j) = (if j = x.toNatClampNeg then y else am_I m (i + 1) j)
      by_cases hj : j = x.toNatClampNeg
      · rw [if_pos hj, if_pos ⟨rfl, hj⟩]
      · rw [if_neg hj, if_neg (fun q => hj q.2)]
  refine va_iast (rest := st.map (am_sh base b)) C.1 (am_C.b C) C.2.2.1.2.2.2.2.1 hP am_ws_D C.2.2.2.2.2.2.2.1 i 0 he (am_tys_at cy (by decide)) hx hd (fun H1 locs1 hP1 _ hS1 => ?_)
  rw [hws] at hP1
  refine am_fix hP1 hS1 C.2.2.1.2.2.2.2.2.2.2.1 C.2.2.2.2.2.2.2.2 (fun hz => ?_)
  exact h p l e base b D cy R s mid args below meth c H1 locs1 cells slots la (am_ctx_put C hP1 hS1 hz rfl (fun _ => rfl)) hla
theorem am_zast {sc : Nat × (Nat → Int32)} {k pc q : Nat} {ls st : List Value} {m : am_Mem} {Q : am_Out → am_Mem → Prop} {a : Nat} {x : Int32} {y : Int32} (hd : am_at k pc .bastore 1 q) (hk : am_K m a = 13) (hx : vp_in x (am_L m a)) (h : am_W sc k q ls st (am_setI m a x.toNatClampNeg (vp_nar .boolean y)) Q) : am_W sc k pc ls (.int y :: .int x :: .ref a :: st) m Q := by
  obtain ⟨hd, rfl⟩ := hd
  intro p l e base b D cy R s mid args below meth c H locs cells slots la C hla
  obtain ⟨hP, hz0, hO⟩ := C.2.2.2.2.2.2.1
  obtain ⟨i, rfl, hi⟩ := am_K_ix hO hk (by decide)
  have he := am_ws_get (base := base) (cy := cy) hi
  rw [am_cell_a hk (by decide), am_ac_i hk (by decide) (by decide)] at he
  have hws : (am_ws base cy m).set i (base + i, .inl (cy 13, am_L m (i + 1), .inl (upd (am_I m (i + 1)) x.toNatClampNeg (vp_nar .boolean y)))) = am_ws base cy (am_setI m (i + 1) x.toNatClampNeg (vp_nar .boolean y)) := by
    refine am_ws_upd rfl (fun c hc => am_cell_congr rfl rfl ?_ ?_ (fun _ => rfl)) ?_
    · first | exact fun _ => rfl | exact fun j => if_neg (fun q => hc q.1)
    · first | exact fun _ => rfl | exact fun j => if_neg (fun q => hc q.1)
    · rw [am_cell_a (m := am_setI m (i + 1) x.toNatClampNeg (vp_nar .boolean y)) hk (by decide), am_ac_i (m := am_setI m (i + 1) x.toNatClampNeg (vp_nar .boolean y)) hk (by decide) (by decide)]
      refine congrArg (fun f => (Sum.inl (cy 13, am_L m (i + 1), Sum.inl f) : va_E)) (funext fun j => ?_)
      show (if i + 1 = i + 1 ∧ j = x.toNatClampNeg then (vp_nar .boolean y) else am_I m (i + 1) j) = (if j = x.toNatClampNeg then (vp_nar .boolean y) else am_I m (i + 1) j)
      by_cases hj : j = x.toNatClampNeg
      · rw [if_pos hj, if_pos ⟨rfl, hj⟩]
      · rw [if_neg hj, if_neg (fun q => hj q.2)]
  refine va_zast (rest := st.map (am_sh base b)) C.1 (am_C.b C) C.2.2.1.2.2.2.2.1 hP am_ws_D C.2.2.2.2.2.2.2.1 i 2 he (am_tys_at cy (by decide)) hx hd (fun H1 locs1 hP1 _ hS1 => ?_)
  rw [hws] at hP1
  refine am_fix hP1 hS1 C.2.2.1.2.2.2.2.2.2.2.1 C.2.2.2.2.2.2.2.2 (fun hz => ?_)
  exact h p l e base b D cy R s mid args below meth c H1 locs1 cells slots la (am_ctx_put C hP1 hS1 hz rfl (fun _ => rfl)) hla
theorem am_last {sc : Nat × (Nat → Int32)} {k pc q : Nat} {ls st : List Value} {m : am_Mem} {Q : am_Out → am_Mem → Prop} {a : Nat} {x : Int32} {y : Int64} (hd : am_at k pc .lastore 1 q) (hk : am_K m a = 12) (hx : vp_in x (am_L m a)) (h : am_W sc k q ls st (am_setJ m a x.toNatClampNeg y) Q) : am_W sc k pc ls (.long y :: .int x :: .ref a :: st) m Q := by
  obtain ⟨hd, rfl⟩ := hd
  intro p l e base b D cy R s mid args below meth c H locs cells slots la C hla
  obtain ⟨hP, hz0, hO⟩ := C.2.2.2.2.2.2.1
  obtain ⟨i, rfl, hi⟩ := am_K_ix hO hk (by decide)
  have he := am_ws_get (base := base) (cy := cy) hi
  rw [am_cell_a hk (by decide), am_ac_j hk] at he
  have hws : (am_ws base cy m).set i (base + i, .inl (cy 12, am_L m (i + 1), .inr (.inl (vp_updL (am_J m (i + 1)) x.toNatClampNeg y)))) = am_ws base cy (am_setJ m (i + 1) x.toNatClampNeg y) := by
    refine am_ws_upd rfl (fun c hc => am_cell_congr rfl rfl ?_ ?_ (fun _ => rfl)) ?_
    · first | exact fun _ => rfl | exact fun j => if_neg (fun q => hc q.1)
    · first | exact fun _ => rfl | exact fun j => if_neg (fun q => hc q.1)
    · rw [am_cell_a (m := am_setJ m (i + 1) x.toNatClampNeg y) hk (by decide), am_ac_j (m := am_setJ m (i + 1) x.toNatClampNeg y) hk]
      refine congrArg (fun f => (Sum.inl (cy 12, am_L m (i + 1), Sum.inr (Sum.inl f)) : va_E)) (funext fun j => ?_)
      show (if i + 1 = i + 1 ∧ j = x.toNatClampNeg then y else am_J m (i + 1) j) = (if j = x.toNatClampNeg then y else am_J m (i + 1) j)
      by_cases hj : j = x.toNatClampNeg
      · rw [if_pos hj, if_pos ⟨rfl, hj⟩]
      · rw [if_neg hj, if_neg (fun q => hj q.2)]
  refine va_last (rest := st.map (am_sh base b)) C.1 (am_C.b C) C.2.2.1.2.2.2.2.1 hP am_ws_D C.2.2.2.2.2.2.2.1 i 1 he (am_tys_at cy (by decide)) hx hd (fun H1 locs1 hP1 _ hS1 => ?_)
  rw [hws] at hP1
  refine am_fix hP1 hS1 C.2.2.1.2.2.2.2.2.2.2.1 C.2.2.2.2.2.2.2.2 (fun hz => ?_)
  exact h p l e base b D cy R s mid args below meth c H1 locs1 cells slots la (am_ctx_put C hP1 hS1 hz rfl (fun _ => rfl)) hla
theorem am_aast {sc : Nat × (Nat → Int32)} {k pc q : Nat} {ls st : List Value} {m : am_Mem} {Q : am_Out → am_Mem → Prop} {a ci v : Nat} {x : Int32} (hd : am_at k pc .aastore 1 q) (hk : am_K m a = 14 + ci) (hci : ci < 5) (hv : v = 0 ∨ am_K m v = ci) (hx : vp_in x (am_L m a)) (h : am_W sc k q ls st (am_setR m a x.toNatClampNeg v) Q) : am_W sc k pc ls (.ref v :: .int x :: .ref a :: st) m Q := by
  obtain ⟨hd, rfl⟩ := hd
  intro p l e base b D cy R s mid args below meth c H locs cells slots la C hla
  obtain ⟨hP, hz0, hO⟩ := C.2.2.2.2.2.2.1
  obtain ⟨i, rfl, hi⟩ := am_K_ix hO hk (by omega)
  have he := am_ws_get (base := base) (cy := cy) hi
  rw [am_cell_a hk (by omega), am_ac_r hk (by omega)] at he
  have hCn : am_an (3 + ci) = .object (am_r ci).1 ∧ am_cl[ci]? = some (am_r ci) := by
    match ci, hci with
    | 0, _ => exact ⟨rfl, rfl⟩
    | 1, _ => exact ⟨rfl, rfl⟩
    | 2, _ => exact ⟨rfl, rfl⟩
    | 3, _ => exact ⟨rfl, rfl⟩
    | 4, _ => exact ⟨rfl, rfl⟩
  have ht := am_tys_at cy (j := 3 + ci) (by omega)
  rw [hCn.1, show 11 + (3 + ci) = 14 + ci by omega] at ht
  have hws : (am_ws base cy m).set i (base + i, .inl (cy (14 + ci), am_L m (i + 1), .inr (.inr (.inr (.inr (va_up (fun j => am_ro base (am_R m (i + 1) j)) x.toNatClampNeg (am_ro base v))))))) = am_ws base cy (am_setR m (i + 1) x.toNatClampNeg v) := by
    refine am_ws_upd rfl (fun c hc => am_cell_congr rfl rfl (fun _ => rfl) (fun _ => rfl) (fun j => if_neg (fun q => hc q.1))) ?_
    rw [am_cell_a (m := am_setR m (i + 1) x.toNatClampNeg v) hk (by omega), am_ac_r (m := am_setR m (i + 1) x.toNatClampNeg v) hk (by omega)]
    refine congrArg (fun f => (Sum.inl (cy (14 + ci), am_L m (i + 1), Sum.inr (Sum.inr (Sum.inr (Sum.inr f)))) : va_E)) (funext fun j => ?_)
    show am_ro base (if i + 1 = i + 1 ∧ j = x.toNatClampNeg then v else am_R m (i + 1) j) = (if j = x.toNatClampNeg then am_ro base v else am_ro base (am_R m (i + 1) j))
    by_cases hj : j = x.toNatClampNeg
    · rw [if_pos hj, if_pos ⟨rfl, hj⟩]
    · rw [if_neg hj, if_neg (fun q => hj q.2)]
  have kk : ∀ (H1 : Heap) (locs1 : List Loc), va_P D am_cl ((am_ws base cy m).set i (base + i, .inl (cy (14 + ci), am_L m (i + 1), .inr (.inr (.inr (.inr (va_up (fun j => am_ro base (am_R m (i + 1) j)) x.toNatClampNeg (am_ro base v)))))))) H1 → va_D (fun q => base ≤ q) ((am_ws base cy m).set i (base + i, .inl (cy (14 + ci), am_L m (i + 1), .inr (.inr (.inr (.inr (va_up (fun j => am_ro base (am_R m (i + 1) j)) x.toNatClampNeg (am_ro base v)))))))) → va_S (fun q => base ≤ q) s.heap H1 locs1 →
      W p l e R s mid args below meth c H1 locs1 cells slots (am_End base b D cy R s below Q) (F0 mid (pc + 1) la (st.map (am_sh base b))) := by
    intro H1 locs1 hP1 _ hS1
    rw [hws] at hP1
    refine am_fix hP1 hS1 C.2.2.1.2.2.2.2.2.2.2.1 C.2.2.2.2.2.2.2.2 (fun hz => ?_)
    exact h p l e base b D cy R s mid args below meth c H1 locs1 cells slots la (am_ctx_put C hP1 hS1 hz rfl (fun _ => rfl)) hla
  rcases hv with rfl | hv
  · exact va_astqN (rest := st.map (am_sh base b)) C.1 (am_C.b C) C.2.2.1.2.2.2.2.1 hP am_ws_D C.2.2.2.2.2.2.2.1 i (3 + ci) he ht hx hd kk
  · obtain ⟨iv, rfl, hiv⟩ := am_K_ix hO hv (by omega)
    have hev := am_ws_get (base := base) (cy := cy) hiv
    rw [am_cell_o hv (by omega)] at hev
    exact va_astq (rest := st.map (am_sh base b)) C.1 (am_C.b C) C.2.2.1.2.2.2.2.1 hP am_ws_D C.2.2.2.2.2.2.2.1 i (3 + ci) iv ci he ht hev hCn.2 hx hd kk
theorem am_fixN {p : Program} {l : Launch} {e : Env} {R : Room} {s : State} {mid : MethodId} {args : Array Value} {below : List Frame} {meth : Method} {c : Code} {H : Heap} {locs : List Loc} {cells slots : Nat} {Q : State → Prop} {g : JFrame} {base : Nat} {D : va_G} {cy : Nat → ClassId} {m : am_Mem} {a : Nat} {E : va_E}
    (hP : va_P D am_cl (am_ws base cy m ++ [(a, E)]) H) (hD : va_D (fun q => base ≤ q) (am_ws base cy m ++ [(a, E)])) (hex : s.heap.size + cells = base + am_n m)
    (h : a = base + am_n m → H.size = base + am_n m + 1 → W p l e R s mid args below meth c H locs (cells + 1) slots Q g) : W p l e R s mid args below meth c H locs (cells + 1) slots Q g := by
  intro T hT X
  have h1 := X.heapSize
  rw [hT] at h1
  have hl : (am_ws base cy m ++ [(a, E)])[am_n m]? = some (a, E) := by
    rw [List.getElem?_append_right (by rw [am_ws_len]; exact Nat.le_refl _), am_ws_len, Nat.sub_self]
    rfl
  have h2 : a < H.size := (hP _ _ hl).lt
  have h3 : base ≤ a := hD.2 _ _ hl
  have h4 : a = base + am_n m := by
    by_cases hq : a < base + am_n m
    · have hi : a - base < am_n m := by omega
      have e1 : (am_ws base cy m ++ [(a, E)])[a - base]? = some (base + (a - base), am_cell base cy m (a - base + 1)) := by
        rw [List.getElem?_append_left (by rw [am_ws_len]; exact hi), am_ws_get hi]
      have e2 := hD.1 (a - base) (am_n m) _ _ e1 hl (by show base + (a - base) = a; omega)
      omega
    · omega
  exact h h4 (by omega) T hT X
theorem am_ctx_new {sc : Nat × (Nat → Int32)} {k : Nat} {m m' : am_Mem} {p : Program} {l : Launch} {base b : Nat} {D : va_G} {cy : Nat → ClassId} {R : Room} {s : State} {mid : MethodId} {meth : Method} {c : Code} {H H1 : Heap} {locs locs1 : List Loc} {cells slots : Nat}
    (C : am_Ctx sc k m p l base b D cy R s mid meth c H locs cells slots) (hP : va_P D am_cl (am_ws base cy m') H1) (hS : va_S (fun q => base ≤ q) s.heap H1 locs1) (hz : H1.size = base + am_n m + 1) {sz : Nat} (h1 : m'.1 = (am_n m + 1, am_u m + sz)) (h2 : ∀ a, a ≠ am_n m + 1 → am_K m' a = am_K m a) (hc : am_n m + 1 ≤ am_CM) (hs : am_u m + sz ≤ am_SM) :
    am_Ctx sc k m' p l base b D cy R s mid meth c H1 locs1 (cells + 1) (slots + sz) := by
  have hn : am_n m' = am_n m + 1 := congrArg Prod.fst h1
  have hu : am_u m' = am_u m + sz := congrArg Prod.snd h1
  refine ⟨C.1, C.2.1, C.2.2.1, C.2.2.2.1, C.2.2.2.2.1, ?_, ⟨hP, by omega, fun a ha => ?_⟩, hS, ?_⟩
  · have h9 := C.2.2.2.2.2.1
    unfold am_Rm at h9 ⊢
    rw [hn, hu]
    omega
  · rw [hn] at ha
    rw [h2 a (by omega)]
    exact C.2.2.2.2.2.2.1.2.2 a (by omega)
  · have h9 := C.2.2.2.2.2.2.2.2
    omega
theorem am_new_cell {base : Nat} {cy : Nat → ClassId} {m : am_Mem} {kd len sz : Nat} {c : Nat} (h : c ≤ am_n m) : am_cell base cy (am_new m kd len sz) c = am_cell base cy m c := by
  have hne : ¬ c = m.1.1 + 1 := by
    have : c ≤ m.1.1 := h
    omega
  exact am_cell_congr (if_neg hne) (if_neg hne) (fun _ => if_neg hne) (fun _ => if_neg hne) (fun _ => if_neg hne)
theorem am_new_K {m : am_Mem} {kd len sz : Nat} : am_K (am_new m kd len sz) (am_n m + 1) = kd := if_pos rfl
theorem am_new_L {m : am_Mem} {kd len sz : Nat} : am_L (am_new m kd len sz) (am_n m + 1) = len := if_pos rfl
theorem am_new_Ko {m : am_Mem} {kd len sz a : Nat} (h : a ≠ am_n m + 1) : am_K (am_new m kd len sz) a = am_K m a := if_neg h
theorem am_rm {sc : Nat × (Nat → Int32)} {k : Nat} {m : am_Mem} {p : Program} {l : Launch} {base b : Nat} {D : va_G} {cy : Nat → ClassId} {R : Room} {s : State} {mid : MethodId} {meth : Method} {c : Code} {H : Heap} {locs : List Loc} {cells slots : Nat} (C : am_Ctx sc k m p l base b D cy R s mid meth c H locs cells slots) {sz : Nat} (hc : am_n m + 1 ≤ am_CM) (hs : am_u m + sz ≤ am_SM) : cells + 1 ≤ R.cells ∧ slots + sz ≤ R.slots := by
  have h9 := C.2.2.2.2.2.1
  unfold am_Rm at h9
  omega
def am_dv (kd : Nat) : Value := match kd with
  | 0 => .int 0
  | 1 => .long 0
  | _ => .null
theorem am_kt_dv {kd : Nat} {t : FieldType} (h : am_kt kd t = true) : defaultValue t = am_dv kd := by
  unfold am_kt at h
  split at h <;> first | rfl | cases h
theorem am_newo {sc : Nat × (Nat → Int32)} {k pc q : Nat} {ls st : List Value} {m : am_Mem} {Q : am_Out → am_Mem → Prop} {idx ci N : Nat} (hd : am_at k pc (.new idx) 3 q) (hci : ci < 8) (hN : (am_fk ci).length = N) (hw : Cond.classLink (am_y k).cls idx (am_r ci).1 ∈ lw_tbl) (hi : Cond.instantiable (am_r ci).1 N ∈ lw_tbl) (hin : Cond.initialized (am_r ci).1 ∈ lw_tbl) (hc : am_n m + 1 ≤ am_CM) (hs : am_u m + N ≤ am_SM)
    (h : am_W sc k q ls (.ref (am_n m + 1) :: st) (am_new m ci 0 N) Q) : am_W sc k pc ls st m Q := by
  obtain ⟨hd, rfl⟩ := hd
  subst hN
  intro p l e base b D cy R s mid args below meth c H locs cells slots la C hla
  obtain ⟨hP, hz0, hO⟩ := C.2.2.2.2.2.2.1
  have cp := am_cp hci
  have hrm := am_rm C hc hs
  have hi2 : Cond.instantiable (am_r ci).1 (am_r ci).2.2 ∈ lw_tbl := by rw [cp.2.1]; exact hi
  have hfs : ∀ j, j < (am_r ci).2.2 → defaultValue (am_ty ci j) = vp_V (am_fl base (am_new m ci 0 (am_fk ci).length) (am_n m + 1) (am_fk ci) 0) j := by
    intro j hj
    rw [cp.2.1] at hj
    have h9 := cp.2.2.2.2.2.2 j hj
    have hg : (am_fk ci)[j]? = some ((am_fk ci).getD j 3) := by
      rw [List.getD_eq_getElem?_getD, List.getElem?_eq_getElem hj]; rfl
    rw [am_kt_dv h9]
    generalize (am_fk ci).getD j 3 = kd at hg
    show _ = ((am_fl base (am_new m ci 0 (am_fk ci).length) (am_n m + 1) (am_fk ci) 0)).getD j .null
    rw [List.getD_eq_getElem?_getD, am_fl_get (am_fk ci) 0 j _ hg]
    show _ = am_fv base (am_new m ci 0 (am_fk ci).length) (am_n m + 1) kd (0 + j)
    unfold am_dv am_fv
    have z1 : am_I (am_new m ci 0 (am_fk ci).length) (am_n m + 1) (0 + j) = 0 := if_pos rfl
    have z2 : am_J (am_new m ci 0 (am_fk ci).length) (am_n m + 1) (0 + j) = 0 := if_pos rfl
    have z3 : am_R (am_new m ci 0 (am_fk ci).length) (am_n m + 1) (0 + j) = 0 := if_pos rfl
    rw [z1, z2, z3]
    match kd with
    | 0 => rfl
    | 1 => rfl
    | _ + 2 => rfl
  refine va_new (rest := st.map (am_sh base b)) (Ts := u_ws (am_r ci).1 (am_r ci).2.1 (am_r ci).2.2) C.1 (am_C.b C) (fun w hw => am_C.w C (cp.2.2.1 w hw) (cp.2.2.2.1 w hw)) (fun w h => h) (am_ty ci) cp.2.2.2.2.1 (am_C.own C) (am_C.w C hw rfl) (am_C.w C hi2 rfl) (am_C.w C hin rfl) C.2.2.1.2.2.2.2.1 hP am_ws_D C.2.2.2.2.2.2.2.1 (fun q hq => Nat.le_trans C.2.2.1.2.2.2.2.2.2.2.1 hq) cp.1 hfs hrm.1 (by rw [cp.2.1]; exact hrm.2) hd (fun a H1 hP1 hD1 hS1 => ?_)
  refine am_fixN hP1 hD1 C.2.2.2.2.2.2.2.2 (fun ha hz => ?_)
  subst ha
  rw [am_ws_new (m' := am_new m ci 0 (am_fk ci).length) rfl (fun c hc => am_new_cell hc) (am_cell_o am_new_K (by omega))] at hP1
  rw [cp.2.1]
  exact h p l e base b D cy R s mid args below meth c H1 locs (cells + 1) (slots + (am_fk ci).length) la (am_ctx_new C hP1 hS1 hz rfl (fun a ha => am_new_Ko ha) hc hs) hla
