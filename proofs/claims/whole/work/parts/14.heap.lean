/-! rules of memory -/
def am_fld (k idx ci j kd : Nat) : Prop := ci < 8 ∧ (am_fk ci)[j]? = some kd ∧ Cond.fieldLink (am_y k).cls idx ((am_r ci).2.1 j).1 ((am_r ci).2.1 j).2.1 ((am_r ci).2.1 j).2.2.1 ∈ lw_tbl
def am_av (m : am_Mem) (a kd j : Nat) : Value := match kd with
  | 0 => .int (am_I m a j)
  | 1 => .long (am_J m a j)
  | _ => .ref (am_R m a j)
theorem am_av_sh (base b : Nat) (m : am_Mem) (a kd j : Nat) : am_sh base b (am_av m a kd j) = am_fv base m a kd j := by
  match kd with
  | 0 => rfl
  | 1 => rfl
  | _ + 2 => rfl
theorem am_cell_o {base : Nat} {cy : Nat → ClassId} {m : am_Mem} {a ci : Nat} (h : am_K m a = ci) (hc : ci < 11) : am_cell base cy m a = .inr (ci, am_fl base m a (am_fk ci) 0) := by
  unfold am_cell
  rw [h, if_pos hc]
theorem am_cell_a {base : Nat} {cy : Nat → ClassId} {m : am_Mem} {a ci : Nat} (h : am_K m a = ci) (hc : 11 ≤ ci) : am_cell base cy m a = .inl (cy ci, am_L m a, am_ac base m a) := by
  unfold am_cell
  rw [h, if_neg (by omega)]
theorem am_getf {sc : Nat × (Nat → Int32)} {k pc q : Nat} {ls st : List Value} {m : am_Mem} {Q : am_Out → am_Mem → Prop} {a idx ci j kd : Nat} (hd : am_at k pc (.getfield idx) 3 q) (hf : am_fld k idx ci j kd) (hk : am_K m a = ci) (h : am_W sc k q ls (am_av m a kd j :: st) m Q) : am_W sc k pc ls (.ref a :: st) m Q := by
  obtain ⟨hd, rfl⟩ := hd
  obtain ⟨hci, hkd, hw⟩ := hf
  intro p l e base b D cy R s mid args below meth c H locs cells slots la C hla
  obtain ⟨hP, -, hO⟩ := C.2.2.2.2.2.2.1
  obtain ⟨i, rfl, hi⟩ := am_K_ix hO hk (by omega)
  have cp := am_cp hci
  have hj : j < (am_r ci).2.2 := by rw [cp.2.1]; exact (List.getElem?_eq_some_iff.mp hkd).1
  have he : (am_ws base cy m)[i]? = some (base + i, .inr (ci, am_fl base m (i + 1) (am_fk ci) 0)) := by rw [am_ws_get hi, am_cell_o hk (by omega)]
  have hv := am_fl_get (base := base) (m := m) (a := i + 1) (am_fk ci) 0 j kd hkd
  rw [Nat.zero_add, ← am_av_sh base b] at hv
  exact va_get (rest := st.map (am_sh base b)) (Ts := u_ws (am_r ci).1 (am_r ci).2.1 (am_r ci).2.2) C.1 (am_C.b C) (fun w hw => am_C.w C (cp.2.2.1 w hw) (cp.2.2.2.1 w hw)) (fun w h => h) (am_C.own C) C.2.2.1.2.2.2.2.1 hP i he cp.1 j hj (am_C.w C hw rfl) (fun x h => h) hv hd
    (h p l e base b D cy R s mid args below meth c H locs cells slots la C hla)
/-- a store: the memory of the same cells, H1 holds it -/
theorem am_ctx_put {sc : Nat × (Nat → Int32)} {k : Nat} {m m' : am_Mem} {p : Program} {l : Launch} {base b : Nat} {D : va_G} {cy : Nat → ClassId} {R : Room} {s : State} {mid : MethodId} {meth : Method} {c : Code} {H H1 : Heap} {locs locs1 : List Loc} {cells slots : Nat}
    (C : am_Ctx sc k m p l base b D cy R s mid meth c H locs cells slots) (hP : va_P D am_cl (am_ws base cy m') H1) (hS : va_S (fun q => base ≤ q) s.heap H1 locs1) (hz : H1.size = base + am_n m') (h1 : m'.1 = m.1) (h2 : ∀ a, am_K m' a = am_K m a) :
    am_Ctx sc k m' p l base b D cy R s mid meth c H1 locs1 cells slots := by
  have hn : am_n m' = am_n m := congrArg Prod.fst h1
  have hu : am_u m' = am_u m := congrArg Prod.snd h1
  refine ⟨C.1, C.2.1, C.2.2.1, C.2.2.2.1, C.2.2.2.2.1, ?_, ⟨hP, hz, fun a ha => ?_⟩, hS, ?_⟩
  · have := C.2.2.2.2.2.1
    unfold am_Rm at this ⊢
    rw [hn, hu]
    exact this
  · rw [hn] at ha
    rw [h2]
    exact C.2.2.2.2.2.2.1.2.2 a ha
  · rw [hn]
    exact C.2.2.2.2.2.2.2.2
/-- may this method write that field: it isn't final, or this is the class's own constructor -/
def am_pf (k ci j : Nat) : Bool := !((am_r ci).2.1 j).2.2.2 || (decide ((am_y k).name = "<init>") && decide (((am_r ci).2.1 j).1 = (am_y k).cls))
theorem am_putf {sc : Nat × (Nat → Int32)} {k pc q : Nat} {ls st : List Value} {m m' : am_Mem} {Q : am_Out → am_Mem → Prop} {a idx ci j kd : Nat} {v : Value} (hd : am_at k pc (.putfield idx) 3 q) (hf : am_fld k idx ci j kd) (hpf : am_pf k ci j = true) (hk : am_K m a = ci)
    (hty : ∀ base b, narrow (am_ty ci j) (am_sh base b v) = am_sh base b v ∧ fits (am_ty ci j) (am_sh base b v) = true)
    (h1 : m'.1 = m.1) (h2 : ∀ c, am_K m' c = am_K m c) (h3 : ∀ base cy c, c ≠ a → am_cell base cy m' c = am_cell base cy m c) (h4 : ∀ base b, am_fl base m' a (am_fk ci) 0 = (am_fl base m a (am_fk ci) 0).set j (am_sh base b v))
    (h : am_W sc k q ls st m' Q) : am_W sc k pc ls (v :: .ref a :: st) m Q := by
  obtain ⟨hd, rfl⟩ := hd
  obtain ⟨hci, hkd, hw⟩ := hf
  intro p l e base b D cy R s mid args below meth c H locs cells slots la C hla
  obtain ⟨hP, hz0, hO⟩ := C.2.2.2.2.2.2.1
  obtain ⟨i, rfl, hi⟩ := am_K_ix hO hk (by omega)
  have cp := am_cp hci
  have hjl := (List.getElem?_eq_some_iff.mp hkd).1
  have hj : j < (am_r ci).2.2 := by rw [cp.2.1]; exact hjl
  have he : (am_ws base cy m)[i]? = some (base + i, .inr (ci, am_fl base m (i + 1) (am_fk ci) 0)) := by rw [am_ws_get hi, am_cell_o hk (by omega)]
  have hws : (am_ws base cy m).set i (base + i, .inr (ci, (am_fl base m (i + 1) (am_fk ci) 0).set j (am_sh base b v))) = am_ws base cy m' :=
    am_ws_upd (congrArg Prod.fst h1) (fun c hc => h3 base cy c hc) (by rw [am_cell_o ((h2 (i + 1)).trans hk) (by omega), h4 base b])
  have kk : ∀ (H1 : Heap) (locs1 : List Loc), va_P D am_cl ((am_ws base cy m).set i (base + i, .inr (ci, (am_fl base m (i + 1) (am_fk ci) 0).set j (am_sh base b v)))) H1 → va_D (fun q => base ≤ q) ((am_ws base cy m).set i (base + i, .inr (ci, (am_fl base m (i + 1) (am_fk ci) 0).set j (am_sh base b v)))) → va_S (fun q => base ≤ q) s.heap H1 locs1 →
      W p l e R s mid args below meth c H1 locs1 cells slots (am_End base b D cy R s below Q) (F0 mid (pc + 3) la (st.map (am_sh base b))) := by
    intro H1 locs1 hP1 _ hS1
    rw [hws] at hP1
    refine am_fix hP1 hS1 C.2.2.1.2.2.2.2.2.2.2.1 (by rw [show am_n m' = am_n m from congrArg Prod.fst h1]; exact C.2.2.2.2.2.2.2.2) (fun hz => ?_)
    exact h p l e base b D cy R s mid args below meth c H1 locs1 cells slots la (am_ctx_put C hP1 hS1 hz h1 h2) hla
  have hl : j < (am_fl base m (i + 1) (am_fk ci) 0).length := by rw [am_fl_len]; exact hjl
  by_cases hfin : ((am_r ci).2.1 j).2.2.2 = true
  · simp only [am_pf, hfin, Bool.not_true, Bool.false_or, Bool.and_eq_true, decide_eq_true_eq] at hpf
    exact va_putF (rest := st.map (am_sh base b)) (Ts := u_ws (am_r ci).1 (am_r ci).2.1 (am_r ci).2.2) C.1 (am_C.b C) (fun w hw => am_C.w C (cp.2.2.1 w hw) (cp.2.2.2.1 w hw)) (fun w h => h) (am_ty ci) cp.2.2.2.2.1 cp.2.2.2.2.2.1 (am_C.own C) C.2.2.1.2.2.2.2.1 hP am_ws_D C.2.2.2.2.2.2.2.1 i he cp.1 j hj (am_C.w C hw rfl) (fun x h => h) hfin
      (by rw [C.2.2.2.1.2.2.2.2.2.1]; exact hpf.1) hpf.2 (cp.2.2.2.2.1 j hj) (hty base b).1 (hty base b).2 hl hd kk
  · exact va_put (rest := st.map (am_sh base b)) (Ts := u_ws (am_r ci).1 (am_r ci).2.1 (am_r ci).2.2) C.1 (am_C.b C) (fun w hw => am_C.w C (cp.2.2.1 w hw) (cp.2.2.2.1 w hw)) (fun w h => h) (am_ty ci) cp.2.2.2.2.1 cp.2.2.2.2.2.1 (am_C.own C) C.2.2.1.2.2.2.2.1 hP am_ws_D C.2.2.2.2.2.2.2.1 i he cp.1 j hj (am_C.w C hw rfl) (fun x h => h) (by simpa using hfin)
      (cp.2.2.2.2.1 j hj) (hty base b).1 (hty base b).2 hl hd kk
theorem am_putI {sc : Nat × (Nat → Int32)} {k pc q : Nat} {ls st : List Value} {m : am_Mem} {Q : am_Out → am_Mem → Prop} {a idx ci j : Nat} {x : Int32} (hd : am_at k pc (.putfield idx) 3 q) (hf : am_fld k idx ci j 0) (hpf : am_pf k ci j = true) (hk : am_K m a = ci) (hty : am_ty ci j = .int)
    (h : am_W sc k q ls st (am_setI m a j x) Q) : am_W sc k pc ls (.int x :: .ref a :: st) m Q := by
  refine am_putf (m' := am_setI m a j x) hd hf hpf hk (fun base b => by rw [hty]; exact ⟨rfl, rfl⟩) rfl (fun _ => rfl) (fun base cy c hc => am_cell_congr rfl rfl (fun i => ?_) (fun _ => rfl) (fun _ => rfl)) (fun base b => ?_) h
  · show (if c = a ∧ i = j then x else am_I m c i) = am_I m c i
    rw [if_neg (fun q => hc q.1)]
  · refine am_fl_set (am_fk ci) 0 j 0 hf.2.1 (fun kd' j' hj => ?_) ?_
    · unfold am_fv
      split
      · show Value.int (if a = a ∧ j' = j then x else am_I m a j') = .int (am_I m a j')
        rw [if_neg (fun q => hj (by omega))]
      · rfl
      · rfl
    · show Value.int (if a = a ∧ 0 + j = j then x else am_I m a (0 + j)) = .int x
      rw [if_pos ⟨rfl, by omega⟩]
theorem am_putZ {sc : Nat × (Nat → Int32)} {k pc q : Nat} {ls st : List Value} {m : am_Mem} {Q : am_Out → am_Mem → Prop} {a idx ci j : Nat} {x : Int32} (hd : am_at k pc (.putfield idx) 3 q) (hf : am_fld k idx ci j 0) (hpf : am_pf k ci j = true) (hk : am_K m a = ci) (hty : am_ty ci j = .boolean) (hx : x = 0 ∨ x = 1)
    (h : am_W sc k q ls st (am_setI m a j x) Q) : am_W sc k pc ls (.int x :: .ref a :: st) m Q := by
  refine am_putf (m' := am_setI m a j x) hd hf hpf hk (fun base b => by rw [hty]; rcases hx with rfl | rfl <;> exact ⟨rfl, rfl⟩) rfl (fun _ => rfl) (fun base cy c hc => am_cell_congr rfl rfl (fun i => ?_) (fun _ => rfl) (fun _ => rfl)) (fun base b => ?_) h
  · show (if c = a ∧ i = j then x else am_I m c i) = am_I m c i
    rw [if_neg (fun q => hc q.1)]
  · refine am_fl_set (am_fk ci) 0 j 0 hf.2.1 (fun kd' j' hj => ?_) ?_
    · unfold am_fv
      split
      · show Value.int (if a = a ∧ j' = j then x else am_I m a j') = .int (am_I m a j')
        rw [if_neg (fun q => hj (by omega))]
      · rfl
      · rfl
    · show Value.int (if a = a ∧ 0 + j = j then x else am_I m a (0 + j)) = .int x
      rw [if_pos ⟨rfl, by omega⟩]
theorem am_putJ {sc : Nat × (Nat → Int32)} {k pc q : Nat} {ls st : List Value} {m : am_Mem} {Q : am_Out → am_Mem → Prop} {a idx ci j : Nat} {x : Int64} (hd : am_at k pc (.putfield idx) 3 q) (hf : am_fld k idx ci j 1) (hpf : am_pf k ci j = true) (hk : am_K m a = ci) (hty : am_ty ci j = .long)
    (h : am_W sc k q ls st (am_setJ m a j x) Q) : am_W sc k pc ls (.long x :: .ref a :: st) m Q := by
  refine am_putf (m' := am_setJ m a j x) hd hf hpf hk (fun base b => by rw [hty]; exact ⟨rfl, rfl⟩) rfl (fun _ => rfl) (fun base cy c hc => am_cell_congr rfl rfl (fun _ => rfl) (fun i => ?_) (fun _ => rfl)) (fun base b => ?_) h
  · show (if c = a ∧ i = j then x else am_J m c i) = am_J m c i
    rw [if_neg (fun q => hc q.1)]
  · refine am_fl_set (am_fk ci) 0 j 1 hf.2.1 (fun kd' j' hj => ?_) ?_
    · unfold am_fv
      split
      · rfl
      · show Value.long (if a = a ∧ j' = j then x else am_J m a j') = .long (am_J m a j')
        rw [if_neg (fun q => hj (by omega))]
      · rfl
    · show Value.long (if a = a ∧ 0 + j = j then x else am_J m a (0 + j)) = .long x
      rw [if_pos ⟨rfl, by omega⟩]
theorem am_putR {sc : Nat × (Nat → Int32)} {k pc q : Nat} {ls st : List Value} {m : am_Mem} {Q : am_Out → am_Mem → Prop} {a idx ci j : Nat} {x : Nat} (hd : am_at k pc (.putfield idx) 3 q) (hf : am_fld k idx ci j 2) (hpf : am_pf k ci j = true) (hk : am_K m a = ci)
    (h : am_W sc k q ls st (am_setR m a j x) Q) : am_W sc k pc ls (.ref x :: .ref a :: st) m Q := by
  have hci := hf.1
  have hjl := (List.getElem?_eq_some_iff.mp hf.2.1).1
  have h9 := (am_cp hci).2.2.2.2.2.2 j hjl
  rw [List.getD_eq_getElem?_getD, hf.2.1] at h9
  refine am_putf (m' := am_setR m a j x) hd hf hpf hk (fun base b => ?_) rfl (fun _ => rfl) (fun base cy c hc => am_cell_congr rfl rfl (fun _ => rfl) (fun _ => rfl) (fun i => ?_)) (fun base b => ?_) h
  · cases ht : am_ty ci j <;> rw [ht] at h9 <;> first | (cases h9; done) | (cases x <;> exact ⟨rfl, rfl⟩)
  · show (if c = a ∧ i = j then x else am_R m c i) = am_R m c i
    rw [if_neg (fun q => hc q.1)]
  · refine am_fl_set (am_fk ci) 0 j 2 hf.2.1 (fun kd' j' hj => ?_) ?_
    · unfold am_fv
      split
      · rfl
      · rfl
      · show am_rv base (if a = a ∧ j' = j then x else am_R m a j') = am_rv base (am_R m a j')
        rw [if_neg (fun q => hj (by omega))]
    · show am_rv base (if a = a ∧ 0 + j = j then x else am_R m a (0 + j)) = am_rv base x
      rw [if_pos ⟨rfl, by omega⟩]
