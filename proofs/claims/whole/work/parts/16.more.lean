/-! new arrays, clone, arraycopy, Math, Object.<init> -/
theorem am_tyl (cy : Nat → ClassId) : (am_tys cy).length = 8 := by simp [am_tys]
theorem am_newI {m : am_Mem} {kd len sz : Nat} : am_I (am_new m kd len sz) (am_n m + 1) = fun _ => 0 := funext fun _ => if_pos rfl
theorem am_newJ {m : am_Mem} {kd len sz : Nat} : am_J (am_new m kd len sz) (am_n m + 1) = fun _ => 0 := funext fun _ => if_pos rfl
theorem am_newR {m : am_Mem} {kd len sz : Nat} (j : Nat) : am_R (am_new m kd len sz) (am_n m + 1) j = 0 := if_pos rfl
theorem am_newaI {sc : Nat × (Nat → Int32)} {k pc q : Nat} {ls st : List Value} {m : am_Mem} {Q : am_Out → am_Mem → Prop} {x : Int32} {N : Nat} (hd : am_at k pc (.newarray .int) 2 q) (hw : Cond.arrayClass .int ∈ lw_tbl) (hx : ¬ x < 0) (hN : x.toNatClampNeg = N) (hb : N ≤ 60000) (hc : am_n m + 1 ≤ am_CM) (hs : am_u m + N ≤ am_SM)
    (h : am_W sc k q ls (.ref (am_n m + 1) :: st) (am_new m 11 N N) Q) : am_W sc k pc ls (.int x :: st) m Q := by
  obtain ⟨hd, rfl⟩ := hd
  intro p l e base b D cy R s mid args below meth c H locs cells slots la C hla
  obtain ⟨hP, hz0, hO⟩ := C.2.2.2.2.2.2.1
  have hrm := am_rm C hc hs
  refine va_newa (rest := st.map (am_sh base b)) (atype := .int) (ty := .int) (a0 := (N, .inl (fun _ => 0))) C.1 (am_C.b C) (am_C.w C hw rfl) rfl C.2.2.1.2.2.2.2.1 hP am_ws_D C.2.2.2.2.2.2.2.1 (fun q hq => Nat.le_trans C.2.2.1.2.2.2.2.2.2.2.1 hq) (fun cA => rfl) hx hN (by show N * _ ≤ _; simp [componentBytes]; omega) hrm.1 hrm.2 hd (fun a cA H1 hK1 hP1 hD1 hS1 => ?_)
  have hcA : cA = cy 11 := by
    have h1 := (hK1.2 8 (cA, .int) (by rw [List.getElem?_append_right (by rw [am_tyl]; exact Nat.le_refl _), am_tyl]; rfl)).2
    have h2 := (C.2.2.1.2.2.2.2.1.2 0 (cy 11, .int) (am_tys_at cy (by decide))).2
    exact Option.some.inj ((show s.vm.findClass _ = some cA from h1).symm.trans h2)
  subst hcA
  refine am_fixN hP1 hD1 C.2.2.2.2.2.2.2.2 (fun ha hz => ?_)
  subst ha
  rw [am_ws_new (m' := am_new m 11 N N) rfl (fun c hc => am_new_cell hc) (by rw [am_cell_a am_new_K (by decide), am_ac_i am_new_K (by decide) (by decide), am_newI, am_new_L])] at hP1
  exact h p l e base b D cy R s mid args below meth c H1 locs (cells + 1) (slots + N) la (am_ctx_new C hP1 hS1 hz rfl (fun a ha => am_new_Ko ha) hc hs) hla
theorem am_newaJ {sc : Nat × (Nat → Int32)} {k pc q : Nat} {ls st : List Value} {m : am_Mem} {Q : am_Out → am_Mem → Prop} {x : Int32} {N : Nat} (hd : am_at k pc (.newarray .long) 2 q) (hw : Cond.arrayClass .long ∈ lw_tbl) (hx : ¬ x < 0) (hN : x.toNatClampNeg = N) (hb : N ≤ 60000) (hc : am_n m + 1 ≤ am_CM) (hs : am_u m + N ≤ am_SM)
    (h : am_W sc k q ls (.ref (am_n m + 1) :: st) (am_new m 12 N N) Q) : am_W sc k pc ls (.int x :: st) m Q := by
  obtain ⟨hd, rfl⟩ := hd
  intro p l e base b D cy R s mid args below meth c H locs cells slots la C hla
  obtain ⟨hP, hz0, hO⟩ := C.2.2.2.2.2.2.1
  have hrm := am_rm C hc hs
  refine va_newa (rest := st.map (am_sh base b)) (atype := .long) (ty := .long) (a0 := (N, .inr (.inl (fun _ => 0)))) C.1 (am_C.b C) (am_C.w C hw rfl) rfl C.2.2.1.2.2.2.2.1 hP am_ws_D C.2.2.2.2.2.2.2.1 (fun q hq => Nat.le_trans C.2.2.1.2.2.2.2.2.2.2.1 hq) (fun cA => rfl) hx hN (by show N * _ ≤ _; simp [componentBytes]; omega) hrm.1 hrm.2 hd (fun a cA H1 hK1 hP1 hD1 hS1 => ?_)
  have hcA : cA = cy 12 := by
    have h1 := (hK1.2 8 (cA, .long) (by rw [List.getElem?_append_right (by rw [am_tyl]; exact Nat.le_refl _), am_tyl]; rfl)).2
    have h2 := (C.2.2.1.2.2.2.2.1.2 1 (cy 12, .long) (am_tys_at cy (by decide))).2
    exact Option.some.inj ((show s.vm.findClass _ = some cA from h1).symm.trans h2)
  subst hcA
  refine am_fixN hP1 hD1 C.2.2.2.2.2.2.2.2 (fun ha hz => ?_)
  subst ha
  rw [am_ws_new (m' := am_new m 12 N N) rfl (fun c hc => am_new_cell hc) (by rw [am_cell_a am_new_K (by decide), am_ac_j am_new_K, am_newJ, am_new_L])] at hP1
  exact h p l e base b D cy R s mid args below meth c H1 locs (cells + 1) (slots + N) la (am_ctx_new C hP1 hS1 hz rfl (fun a ha => am_new_Ko ha) hc hs) hla
theorem am_newaZ {sc : Nat × (Nat → Int32)} {k pc q : Nat} {ls st : List Value} {m : am_Mem} {Q : am_Out → am_Mem → Prop} {x : Int32} {N : Nat} (hd : am_at k pc (.newarray .boolean) 2 q) (hw : Cond.arrayClass .boolean ∈ lw_tbl) (hx : ¬ x < 0) (hN : x.toNatClampNeg = N) (hb : N ≤ 60000) (hc : am_n m + 1 ≤ am_CM) (hs : am_u m + N ≤ am_SM)
    (h : am_W sc k q ls (.ref (am_n m + 1) :: st) (am_new m 13 N N) Q) : am_W sc k pc ls (.int x :: st) m Q := by
  obtain ⟨hd, rfl⟩ := hd
  intro p l e base b D cy R s mid args below meth c H locs cells slots la C hla
  obtain ⟨hP, hz0, hO⟩ := C.2.2.2.2.2.2.1
  have hrm := am_rm C hc hs
  refine va_newa (rest := st.map (am_sh base b)) (atype := .boolean) (ty := .boolean) (a0 := (N, .inl (fun _ => 0))) C.1 (am_C.b C) (am_C.w C hw rfl) rfl C.2.2.1.2.2.2.2.1 hP am_ws_D C.2.2.2.2.2.2.2.1 (fun q hq => Nat.le_trans C.2.2.1.2.2.2.2.2.2.2.1 hq) (fun cA => rfl) hx hN (by show N * _ ≤ _; simp [componentBytes]; omega) hrm.1 hrm.2 hd (fun a cA H1 hK1 hP1 hD1 hS1 => ?_)
  have hcA : cA = cy 13 := by
    have h1 := (hK1.2 8 (cA, .boolean) (by rw [List.getElem?_append_right (by rw [am_tyl]; exact Nat.le_refl _), am_tyl]; rfl)).2
    have h2 := (C.2.2.1.2.2.2.2.1.2 2 (cy 13, .boolean) (am_tys_at cy (by decide))).2
    exact Option.some.inj ((show s.vm.findClass _ = some cA from h1).symm.trans h2)
  subst hcA
  refine am_fixN hP1 hD1 C.2.2.2.2.2.2.2.2 (fun ha hz => ?_)
  subst ha
  rw [am_ws_new (m' := am_new m 13 N N) rfl (fun c hc => am_new_cell hc) (by rw [am_cell_a am_new_K (by decide), am_ac_i am_new_K (by decide) (by decide), am_newI, am_new_L])] at hP1
  exact h p l e base b D cy R s mid args below meth c H1 locs (cells + 1) (slots + N) la (am_ctx_new C hP1 hS1 hz rfl (fun a ha => am_new_Ko ha) hc hs) hla
theorem am_newq {sc : Nat × (Nat → Int32)} {k pc q : Nat} {ls st : List Value} {m : am_Mem} {Q : am_Out → am_Mem → Prop} {x : Int32} {N idx ci : Nat} (hd : am_at k pc (.anewarray idx) 3 q) (hci : ci < 5) (hw : Cond.classLink (am_y k).cls idx (am_r ci).1 ∈ lw_tbl) (hao : Cond.arrayOver (.object (am_r ci).1) ∈ lw_tbl) (hx : ¬ x < 0) (hN : x.toNatClampNeg = N) (hb : N ≤ 60000) (hc : am_n m + 1 ≤ am_CM) (hs : am_u m + N ≤ am_SM)
    (h : am_W sc k q ls (.ref (am_n m + 1) :: st) (am_new m (14 + ci) N N) Q) : am_W sc k pc ls (.int x :: st) m Q := by
  obtain ⟨hd, rfl⟩ := hd
  intro p l e base b D cy R s mid args below meth c H locs cells slots la C hla
  obtain ⟨hP, hz0, hO⟩ := C.2.2.2.2.2.2.1
  have hrm := am_rm C hc hs
  have hCn : am_an (3 + ci) = .object (am_r ci).1 := by
    match ci, hci with
    | 0, _ => rfl
    | 1, _ => rfl
    | 2, _ => rfl
    | 3, _ => rfl
    | 4, _ => rfl
  refine va_newq (rest := st.map (am_sh base b)) (N' := N) C.1 (am_C.b C) (am_C.own C) (am_C.w C hw rfl) (C.2.2.1.2.1 _ hao rfl) C.2.2.1.2.2.2.2.1 hP am_ws_D C.2.2.2.2.2.2.2.1 (fun q hq => Nat.le_trans C.2.2.1.2.2.2.2.2.2.2.1 hq) hx hN (by omega) hrm.1 hrm.2 hd (fun a cA H1 hK1 hP1 hD1 hS1 => ?_)
  have hcA : cA = cy (14 + ci) := by
    obtain ⟨-, -, -, -, -, h1⟩ := (hK1.2 8 (cA, .object (am_r ci).1) (by rw [List.getElem?_append_right (by rw [am_tyl]; exact Nat.le_refl _), am_tyl]; rfl)).2
    have ht := am_tys_at cy (j := 3 + ci) (by omega)
    rw [hCn, show 11 + (3 + ci) = 14 + ci by omega] at ht
    obtain ⟨-, -, -, -, -, h2⟩ := (C.2.2.1.2.2.2.2.1.2 (3 + ci) _ ht).2
    exact Option.some.inj (h1.symm.trans h2)
  subst hcA
  refine am_fixN hP1 hD1 C.2.2.2.2.2.2.2.2 (fun ha hz => ?_)
  subst ha
  rw [am_ws_new (m' := am_new m (14 + ci) N N) rfl (fun c hc => am_new_cell hc) (by
    rw [am_cell_a am_new_K (by omega), am_ac_r am_new_K (by omega), am_new_L]
    simp only [am_newR]
    rfl)] at hP1
  exact h p l e base b D cy R s mid args below meth c H1 locs (cells + 1) (slots + N) la (am_ctx_new C hP1 hS1 hz rfl (fun a ha => am_new_Ko ha) hc hs) hla
def am_cln : MethodName := ⟨"[I", "clone", "()Ljava/lang/Object;"⟩
def am_clo : MethodName := ⟨"java/lang/Object", "clone", "()Ljava/lang/Object;"⟩
theorem am_clone {sc : Nat × (Nat → Int32)} {k pc q : Nat} {ls st : List Value} {m : am_Mem} {Q : am_Out → am_Mem → Prop} {idx a : Nat} (hd : am_at k pc (.invokevirtual idx) 3 q) (hw : Cond.methodLink (am_y k).cls idx am_cln ∈ lw_tbl) (w1 : Cond.sameMethod "[I" "java/lang/Object" "clone" "()Ljava/lang/Object;" ∈ lw_tbl) (w2 : Cond.native am_clo ∈ lw_tbl) (w3 : Cond.instanceMethod am_clo ∈ lw_tbl) (w4 : Cond.selects "[I" am_cln am_clo ∈ lw_tbl) (w5 : Cond.castable "[I" "java/lang/Cloneable" ∈ lw_tbl)
    (hk : am_K m a = 11) (hf : 1 ≤ am_fr k) (hlo : am_cs st + 14 ≤ am_lo k) (hc : am_n m + 1 ≤ am_CM) (hs : am_u m + am_L m a ≤ am_SM)
    (h : am_W sc k q ls (.ref (am_n m + 1) :: st) (am_rowI (am_new m 11 (am_L m a) (am_L m a)) (am_n m + 1) (am_I m a)) Q) : am_W sc k pc ls (.ref a :: st) m Q := by
  obtain ⟨hd, rfl⟩ := hd
  intro p l e base b D cy R s mid args below meth c H locs cells slots la C hla
  obtain ⟨hP, hz0, hO⟩ := C.2.2.2.2.2.2.1
  obtain ⟨i, rfl, hi⟩ := am_K_ix hO hk (by decide)
  have hrm := am_rm C hc hs
  have he := am_ws_get (base := base) (cy := cy) hi
  rw [am_cell_a hk (by decide), am_ac_i hk (by decide) (by decide)] at he
  have hla1 := hla.1
  have hnm : s.vm.findClass "[I" = some (cy 11) := (C.2.2.1.2.2.2.2.1.2 0 (cy 11, .int) (am_tys_at cy (by decide))).2
  refine va_clone (rest := st.map (am_sh base b)) C.1 (am_C.b C) (by rw [hla1]; exact C.2.2.2.1.2.1) (am_C.own C) (am_C.w C hw rfl) (am_C.w C w1 rfl) (am_C.w C w2 rfl) (am_C.w C w3 rfl) (am_C.w C w4 rfl) (C.2.2.1.2.1 _ w5 rfl) C.2.2.1.2.2.2.2.1 hP am_ws_D C.2.2.2.2.2.2.2.1 (fun q hq => Nat.le_trans C.2.2.1.2.2.2.2.2.2.2.1 hq) i 0 he (am_tys_at cy (by decide)) hnm
    (fun j v hv => ?_) (Nat.le_trans hf C.2.2.2.2.1.1) (by rw [am_cs_sh]; exact Nat.le_trans hlo C.2.2.2.2.1.2) hrm.1 hrm.2 hd (fun a H1 hK1 hP1 hD1 hS1 => ?_)
  · have hj : j < (arrV (cy 11) (am_L m (i + 1)) (fun j => .int (am_I m (i + 1) j))).slots.size := (Array.getElem?_eq_some_iff.mp hv).1
    rw [arrV_size] at hj
    have h9 : (arrV (cy 11) (am_L m (i + 1)) (fun j => .int (am_I m (i + 1) j))).slots[j]? = some v := hv
    rw [arrV_read _ _ hj] at h9
    cases h9
    rfl
  refine am_fixN hP1 hD1 C.2.2.2.2.2.2.2.2 (fun ha hz => ?_)
  subst ha
  have e9 : am_K (am_rowI (am_new m 11 (am_L m (i + 1)) (am_L m (i + 1))) (am_n m + 1) (am_I m (i + 1))) (am_n m + 1) = 11 := am_new_K (len := am_L m (i + 1)) (sz := am_L m (i + 1))
  rw [am_ws_new (m' := am_rowI (am_new m 11 (am_L m (i + 1)) (am_L m (i + 1))) (am_n m + 1) (am_I m (i + 1))) rfl (fun c hc => by
      have hne : ¬ c = am_n m + 1 := by omega
      refine (am_cell_congr (m := am_new m 11 (am_L m (i + 1)) (am_L m (i + 1))) (m' := am_rowI (am_new m 11 (am_L m (i + 1)) (am_L m (i + 1))) (am_n m + 1) (am_I m (i + 1))) rfl rfl (fun _ => if_neg hne) (fun _ => rfl) (fun _ => rfl)).trans (am_new_cell (kd := 11) (len := am_L m (i + 1)) (sz := am_L m (i + 1)) hc)) (by
      rw [am_cell_a e9 (by decide), am_ac_i e9 (by decide) (by decide)]
      have e1 : am_L (am_rowI (am_new m 11 (am_L m (i + 1)) (am_L m (i + 1))) (am_n m + 1) (am_I m (i + 1))) (am_n m + 1) = am_L m (i + 1) := am_new_L (kd := 11) (sz := am_L m (i + 1))
      have e2 : am_I (am_rowI (am_new m 11 (am_L m (i + 1)) (am_L m (i + 1))) (am_n m + 1) (am_I m (i + 1))) (am_n m + 1) = am_I m (i + 1) := funext fun _ => if_pos rfl
      rw [e1, e2])] at hP1
  exact h p l e base b D cy R s mid args below meth c H1 locs (cells + 1) (slots + am_L m (i + 1)) la (am_ctx_new C hP1 hS1 hz rfl (fun a ha => am_new_Ko (kd := 11) (len := am_L m (i + 1)) (sz := am_L m (i + 1)) ha) hc hs) hla
theorem am_castI {sc : Nat × (Nat → Int32)} {k pc q : Nat} {ls st : List Value} {m : am_Mem} {Q : am_Out → am_Mem → Prop} {idx a : Nat} (hd : am_at k pc (.checkcast idx) 3 q) (hw : Cond.classLink (am_y k).cls idx "[I" ∈ lw_tbl) (hk : am_K m a = 11) (h : am_W sc k q ls (.ref a :: st) m Q) : am_W sc k pc ls (.ref a :: st) m Q := by
  obtain ⟨hd, rfl⟩ := hd
  intro p l e base b D cy R s mid args below meth c H locs cells slots la C hla
  obtain ⟨hP, hz0, hO⟩ := C.2.2.2.2.2.2.1
  obtain ⟨i, rfl, hi⟩ := am_K_ix hO hk (by decide)
  have he := am_ws_get (base := base) (cy := cy) hi
  rw [am_cell_a hk (by decide)] at he
  have hnm : s.vm.findClass "[I" = some (cy 11) := (C.2.2.1.2.2.2.2.1.2 0 (cy 11, .int) (am_tys_at cy (by decide))).2
  exact va_castA (rest := st.map (am_sh base b)) C.1 (am_C.b C) (am_C.own C) (am_C.w C hw rfl) hP i he hnm hd (h p l e base b D cy R s mid args below meth c H locs cells slots la C hla)
theorem am_mmax {sc : Nat × (Nat → Int32)} {k pc q : Nat} {ls st : List Value} {m : am_Mem} {Q : am_Out → am_Mem → Prop} {idx : Nat} {x y : Int32} (hd : am_at k pc (.invokestatic idx) 3 q) (hw : Cond.methodLink (am_y k).cls idx Lib.Math.max.name ∈ lw_tbl) (w1 : Cond.static Lib.Math.max.name ∈ lw_tbl) (w2 : Cond.initialized "java/lang/Math" ∈ lw_tbl) (w3 : Cond.code Lib.Math.max.name Lib.Math.max.code 2 (some .int) ∈ lw_tbl) (hf : 1 ≤ am_fr k) (hlo : am_cs st + 13 ≤ am_lo k)
    (h : am_W sc k q ls (.int (if x < y then y else x) :: st) m Q) : am_W sc k pc ls (.int y :: .int x :: st) m Q := by
  obtain ⟨hd, rfl⟩ := hd
  intro p l e base b D cy R s mid args below meth c H locs cells slots la C hla
  have h9 := C.2.2.2.2.2.1
  unfold am_Rm at h9
  have hla1 := hla.1
  exact va_mmax (rest := st.map (am_sh base b)) C.1 (am_C.b C) (by rw [hla1]; exact C.2.2.2.1.2.1) (am_C.own C) (am_C.w C hw rfl) (am_C.w C w1 rfl) (am_C.w C w2 rfl) (am_C.w C w3 rfl) (Nat.le_trans hf C.2.2.2.2.1.1) (by rw [am_cs_sh]; exact Nat.le_trans hlo C.2.2.2.2.1.2) (by omega) (by omega) hd (h p l e base b D cy R s mid args below meth c H locs cells slots la C hla)
theorem am_mmin {sc : Nat × (Nat → Int32)} {k pc q : Nat} {ls st : List Value} {m : am_Mem} {Q : am_Out → am_Mem → Prop} {idx : Nat} {x y : Int32} (hd : am_at k pc (.invokestatic idx) 3 q) (hw : Cond.methodLink (am_y k).cls idx Lib.Math.min.name ∈ lw_tbl) (w1 : Cond.static Lib.Math.min.name ∈ lw_tbl) (w2 : Cond.initialized "java/lang/Math" ∈ lw_tbl) (w3 : Cond.code Lib.Math.min.name Lib.Math.min.code 2 (some .int) ∈ lw_tbl) (hf : 1 ≤ am_fr k) (hlo : am_cs st + 13 ≤ am_lo k)
    (h : am_W sc k q ls (.int (if y < x then y else x) :: st) m Q) : am_W sc k pc ls (.int y :: .int x :: st) m Q := by
  obtain ⟨hd, rfl⟩ := hd
  intro p l e base b D cy R s mid args below meth c H locs cells slots la C hla
  have h9 := C.2.2.2.2.2.1
  unfold am_Rm at h9
  have hla1 := hla.1
  exact va_mmin (rest := st.map (am_sh base b)) C.1 (am_C.b C) (by rw [hla1]; exact C.2.2.2.1.2.1) (am_C.own C) (am_C.w C hw rfl) (am_C.w C w1 rfl) (am_C.w C w2 rfl) (am_C.w C w3 rfl) (Nat.le_trans hf C.2.2.2.2.1.1) (by rw [am_cs_sh]; exact Nat.le_trans hlo C.2.2.2.2.1.2) (by omega) (by omega) hd (h p l e base b D cy R s mid args below meth c H locs cells slots la C hla)
theorem am_oinit {sc : Nat × (Nat → Int32)} {k pc q : Nat} {ls st : List Value} {m : am_Mem} {Q : am_Out → am_Mem → Prop} {idx a : Nat} (hd : am_at k pc (.invokespecial idx) 3 q) (hw : Cond.methodLink (am_y k).cls idx objectInit ∈ lw_tbl) (w1 : Cond.instanceMethod objectInit ∈ lw_tbl) (w2 : Cond.code objectInit ⟨#[0xb1]⟩ 1 none ∈ lw_tbl) (hf : 1 ≤ am_fr k) (hlo : am_cs st + 12 ≤ am_lo k) (ha : ¬ a = 0)
    (h : am_W sc k q ls st m Q) : am_W sc k pc ls (.ref a :: st) m Q := by
  obtain ⟨hd, rfl⟩ := hd
  intro p l e base b D cy R s mid args below meth c H locs cells slots la C hla
  obtain ⟨i, rfl⟩ : ∃ i, a = i + 1 := ⟨a - 1, by omega⟩
  have hla1 := hla.1
  exact W.objInit (rest := st.map (am_sh base b)) C.1 (am_C.b C) (am_C.own C) (am_C.w C hw rfl) (am_C.w C w1 rfl) (am_C.w C w2 rfl) rfl (by show la.size = _; rw [hla1]; exact C.2.2.2.1.2.1.symm) rfl hd (Nat.le_trans hf C.2.2.2.2.1.1) (by show 2 * 0 + _ + 12 ≤ _; rw [am_cs_sh]; have := C.2.2.2.2.1.2; omega) (h p l e base b D cy R s mid args below meth c H locs cells slots la C hla)
theorem am_copyI {sc : Nat × (Nat → Int32)} {k pc q : Nat} {ls st : List Value} {m : am_Mem} {Q : am_Out → am_Mem → Prop} {idx a0 a1 : Nat} {x y z : Int32} (hd : am_at k pc (.invokestatic idx) 3 q) (hw : Cond.methodLink (am_y k).cls idx arraycopyName ∈ lw_tbl) (w1 : Cond.native arraycopyName ∈ lw_tbl) (w2 : Cond.static arraycopyName ∈ lw_tbl) (w3 : Cond.initialized "java/lang/System" ∈ lw_tbl) (hk0 : am_K m a0 = 11) (hk1 : am_K m a1 = 11)
    (h1 : ¬ x < 0) (h2 : ¬ y < 0) (h3 : ¬ z < 0) (h4 : x.toNatClampNeg + z.toNatClampNeg ≤ am_L m a0) (h5 : y.toNatClampNeg + z.toNatClampNeg ≤ am_L m a1) (hf : 1 ≤ am_fr k) (hlo : am_cs st + 18 ≤ am_lo k)
    (h : am_W sc k q ls st (am_rowI m a1 (va_cpy (am_I m a0) (am_I m a1) x.toNatClampNeg y.toNatClampNeg z.toNatClampNeg)) Q) : am_W sc k pc ls (.int z :: .int y :: .ref a1 :: .int x :: .ref a0 :: st) m Q := by
  obtain ⟨hd, rfl⟩ := hd
  intro p l e base b D cy R s mid args below meth c H locs cells slots la C hla
  obtain ⟨hP, hz0, hO⟩ := C.2.2.2.2.2.2.1
  obtain ⟨i0, rfl, hi0⟩ := am_K_ix hO hk0 (by decide)
  obtain ⟨i1, rfl, hi1⟩ := am_K_ix hO hk1 (by decide)
  have he0 := am_ws_get (base := base) (cy := cy) hi0
  rw [am_cell_a hk0 (by decide), am_ac_i hk0 (by decide) (by decide)] at he0
  have he1 := am_ws_get (base := base) (cy := cy) hi1
  rw [am_cell_a hk1 (by decide), am_ac_i hk1 (by decide) (by decide)] at he1
  have hla1 := hla.1
  have hws : (am_ws base cy m).set i1 (base + i1, .inl (cy 11, am_L m (i1 + 1), Sum.inl (va_cpy (am_I m (i0 + 1)) (am_I m (i1 + 1)) x.toNatClampNeg y.toNatClampNeg z.toNatClampNeg))) = am_ws base cy (am_rowI m (i1 + 1) (va_cpy (am_I m (i0 + 1)) (am_I m (i1 + 1)) x.toNatClampNeg y.toNatClampNeg z.toNatClampNeg)) := by
    refine am_ws_upd rfl (fun c hc => am_cell_congr rfl rfl ?_ ?_ (fun _ => rfl)) ?_
    · first | exact fun _ => rfl | exact fun j => if_neg hc
    · first | exact fun _ => rfl | exact fun j => if_neg hc
    · have e9 : am_K (am_rowI m (i1 + 1) (va_cpy (am_I m (i0 + 1)) (am_I m (i1 + 1)) x.toNatClampNeg y.toNatClampNeg z.toNatClampNeg)) (i1 + 1) = 11 := hk1
      rw [am_cell_a e9 (by decide), am_ac_i e9 (by decide) (by decide)]
      have e2 : am_I (am_rowI m (i1 + 1) (va_cpy (am_I m (i0 + 1)) (am_I m (i1 + 1)) x.toNatClampNeg y.toNatClampNeg z.toNatClampNeg)) (i1 + 1) = va_cpy (am_I m (i0 + 1)) (am_I m (i1 + 1)) x.toNatClampNeg y.toNatClampNeg z.toNatClampNeg := funext fun _ => if_pos rfl
      rw [e2]
      rfl
  refine va_copyi (rest := st.map (am_sh base b)) C.1 (am_C.b C) (by rw [hla1]; exact C.2.2.2.1.2.1) (am_C.own C) (am_C.w C hw rfl) (am_C.w C w1 rfl) (am_C.w C w2 rfl) (am_C.w C w3 rfl) C.2.2.1.2.2.2.2.1 hP am_ws_D C.2.2.2.2.2.2.2.1 i0 i1 0 0 he0 he1 (am_tys_at cy (by decide)) (am_tys_at cy (by decide)) rfl h1 h2 h3 h4 h5 (fun _ _ => rfl) (Nat.le_trans hf C.2.2.2.2.1.1)
    (by rw [am_cs_sh]; have e1 : nativeFrameWords "java/lang/System" "arraycopy" 5 = 7 := by decide +kernel
        rw [e1]; exact Nat.le_trans hlo C.2.2.2.2.1.2) hd (fun H1 locs1 hP1 _ hS1 => ?_)
  rw [hws] at hP1
  refine am_fix hP1 hS1 C.2.2.1.2.2.2.2.2.2.2.1 C.2.2.2.2.2.2.2.2 (fun hz => ?_)
  exact h p l e base b D cy R s mid args below meth c H1 locs1 cells slots la (am_ctx_put C hP1 hS1 hz rfl (fun _ => rfl)) hla
theorem am_copyJ {sc : Nat × (Nat → Int32)} {k pc q : Nat} {ls st : List Value} {m : am_Mem} {Q : am_Out → am_Mem → Prop} {idx a0 a1 : Nat} {x y z : Int32} (hd : am_at k pc (.invokestatic idx) 3 q) (hw : Cond.methodLink (am_y k).cls idx arraycopyName ∈ lw_tbl) (w1 : Cond.native arraycopyName ∈ lw_tbl) (w2 : Cond.static arraycopyName ∈ lw_tbl) (w3 : Cond.initialized "java/lang/System" ∈ lw_tbl) (hk0 : am_K m a0 = 12) (hk1 : am_K m a1 = 12)
    (h1 : ¬ x < 0) (h2 : ¬ y < 0) (h3 : ¬ z < 0) (h4 : x.toNatClampNeg + z.toNatClampNeg ≤ am_L m a0) (h5 : y.toNatClampNeg + z.toNatClampNeg ≤ am_L m a1) (hf : 1 ≤ am_fr k) (hlo : am_cs st + 18 ≤ am_lo k)
    (h : am_W sc k q ls st (am_rowJ m a1 (va_cpy (am_J m a0) (am_J m a1) x.toNatClampNeg y.toNatClampNeg z.toNatClampNeg)) Q) : am_W sc k pc ls (.int z :: .int y :: .ref a1 :: .int x :: .ref a0 :: st) m Q := by
  obtain ⟨hd, rfl⟩ := hd
  intro p l e base b D cy R s mid args below meth c H locs cells slots la C hla
  obtain ⟨hP, hz0, hO⟩ := C.2.2.2.2.2.2.1
  obtain ⟨i0, rfl, hi0⟩ := am_K_ix hO hk0 (by decide)
  obtain ⟨i1, rfl, hi1⟩ := am_K_ix hO hk1 (by decide)
  have he0 := am_ws_get (base := base) (cy := cy) hi0
  rw [am_cell_a hk0 (by decide), am_ac_j hk0] at he0
  have he1 := am_ws_get (base := base) (cy := cy) hi1
  rw [am_cell_a hk1 (by decide), am_ac_j hk1] at he1
  have hla1 := hla.1
  have hws : (am_ws base cy m).set i1 (base + i1, .inl (cy 12, am_L m (i1 + 1), Sum.inr (Sum.inl (va_cpy (am_J m (i0 + 1)) (am_J m (i1 + 1)) x.toNatClampNeg y.toNatClampNeg z.toNatClampNeg)))) = am_ws base cy (am_rowJ m (i1 + 1) (va_cpy (am_J m (i0 + 1)) (am_J m (i1 + 1)) x.toNatClampNeg y.toNatClampNeg z.toNatClampNeg)) := by
    refine am_ws_upd rfl (fun c hc => am_cell_congr rfl rfl ?_ ?_ (fun _ => rfl)) ?_
    · first | exact fun _ => rfl | exact fun j => if_neg hc
    · first | exact fun _ => rfl | exact fun j => if_neg hc
    · have e9 : am_K (am_rowJ m (i1 + 1) (va_cpy (am_J m (i0 + 1)) (am_J m (i1 + 1)) x.toNatClampNeg y.toNatClampNeg z.toNatClampNeg)) (i1 + 1) = 12 := hk1
      rw [am_cell_a e9 (by decide), am_ac_j e9]
      have e2 : am_J (am_rowJ m (i1 + 1) (va_cpy (am_J m (i0 + 1)) (am_J m (i1 + 1)) x.toNatClampNeg y.toNatClampNeg z.toNatClampNeg)) (i1 + 1) = va_cpy (am_J m (i0 + 1)) (am_J m (i1 + 1)) x.toNatClampNeg y.toNatClampNeg z.toNatClampNeg := funext fun _ => if_pos rfl
      rw [e2]
      rfl
  refine va_copyl (rest := st.map (am_sh base b)) C.1 (am_C.b C) (by rw [hla1]; exact C.2.2.2.1.2.1) (am_C.own C) (am_C.w C hw rfl) (am_C.w C w1 rfl) (am_C.w C w2 rfl) (am_C.w C w3 rfl) C.2.2.1.2.2.2.2.1 hP am_ws_D C.2.2.2.2.2.2.2.1 i0 i1 1 1 he0 he1 (am_tys_at cy (by decide)) (am_tys_at cy (by decide)) rfl h1 h2 h3 h4 h5 (fun _ _ => rfl) (Nat.le_trans hf C.2.2.2.2.1.1)
    (by rw [am_cs_sh]; have e1 : nativeFrameWords "java/lang/System" "arraycopy" 5 = 7 := by decide +kernel
        rw [e1]; exact Nat.le_trans hlo C.2.2.2.2.1.2) hd (fun H1 locs1 hP1 _ hS1 => ?_)
  rw [hws] at hP1
  refine am_fix hP1 hS1 C.2.2.1.2.2.2.2.2.2.2.1 C.2.2.2.2.2.2.2.2 (fun hz => ?_)
  exact h p l e base b D cy R s mid args below meth c H1 locs1 cells slots la (am_ctx_put C hP1 hS1 hz rfl (fun _ => rfl)) hla
