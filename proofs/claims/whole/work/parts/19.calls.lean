/-! the three calls -/
/-- of method k2: its code, its name, n parameters (the receiver apart) -/
def am_mt (k2 n : Nat) : Prop := am_cd k2 ∧ plainName (am_y k2).cls = true ∧ ((am_y k2).cls ≠ "java/lang/invoke/MethodHandle" ∧ (am_y k2).cls ≠ "java/lang/invoke/VarHandle") ∧ ∀ sig, parseMethodDescriptor (am_y k2).desc = some sig → n = sig.parameters.length
def am_sS (k idx k2 : Nat) : Prop := (Cond.methodLink (am_y k).cls idx (am_y k2) ∈ lw_tbl ∨ ∃ host, Cond.methodLinkNest (am_y k).cls idx (am_y k2) host ∈ lw_tbl) ∧ Cond.static (am_y k2) ∈ lw_tbl ∧ Cond.initialized (am_y k2).cls ∈ lw_tbl
def am_sV (k idx k2 ci : Nat) : Prop := Cond.methodLink (am_y k).cls idx (am_y k2) ∈ lw_tbl ∧ Cond.instanceMethod (am_y k2) ∈ lw_tbl ∧ Cond.selects (am_r ci).1 (am_y k2) (am_y k2) ∈ lw_tbl ∧ am_cl[ci]? = some (am_r ci) ∧ ci < 8
def am_sI (k idx k2 : Nat) : Prop := (Cond.methodLink (am_y k).cls idx (am_y k2) ∈ lw_tbl ∨ ∃ host, Cond.methodLinkNest (am_y k).cls idx (am_y k2) host ∈ lw_tbl) ∧ Cond.instanceMethod (am_y k2) ∈ lw_tbl ∧ (am_y k2).name = "<init>" ∧ Cond.code (am_y k2) (am_b k2) (am_ml k2) none ∈ lw_tbl
theorem am_callS {sc : Nat × (Nat → Int32)} {k k2 pc q idx n : Nat} {ls vs rest : List Value} {m : am_Mem} {Q Q2 : am_Out → am_Mem → Prop} (hd : am_at k pc (.invokestatic idx) 3 q) (hs : am_sS k idx k2) (hm : am_mt k2 n) (hn : vs.length = n) (hf : am_fr k2 + 1 ≤ am_fr k) (hlo : am_cs rest + (am_ml k2 + 11) + am_lo k2 ≤ am_lo k) (hen : (am_en vs).length ≤ am_ml k2)
    (h2 : am_W sc k2 0 (am_ent vs (am_ml k2)) [] m Q2) (hret : ∀ v m', Q2 (.inl v) m' → am_W sc k q ls (v.toList ++ rest) m' Q) (hthr : ∀ a m', Q2 (.inr a) m' → am_TW sc k pc ls rest a m' Q) : am_W sc k pc ls (vs.reverse ++ rest) m Q := by
  obtain ⟨hd, rfl⟩ := hd
  obtain ⟨w1, w2, w3⟩ := hs
  obtain ⟨hc, hpn, hy, hnp⟩ := hm
  intro p l e base b D cy R s mid args below meth c H locs cells slots la C hla T hT X
  obtain ⟨mk, meth2, c2, hnm, hm2, -, -, -, -, -, -, hsig⟩ := am_cd_at hc C.2.2.1.1
  obtain ⟨kP, hkP, -⟩ := className_of_methodNamed hnm
  have hstat := Cond.static_spec hnm hm2 (am_C.w C w2 rfl (args := args))
  have hini : kP.init = .initialized := Cond.initialized_spec (findClass_of_methodNamed hnm) hkP (am_C.w C w3 rfl (args := args))
  rcases w1 with w1 | ⟨host, w1⟩
  · obtain ⟨vm1, X1, st1⟩ := X.invokestatic C.1 (am_C.own C) (am_C.w C w1 rfl) hnm hm2 hstat hkP hini hy (g := F0 mid pc la ((vs.reverse ++ rest).map (am_sh base b))) rfl (argsL := vs.map (am_sh base b)) (rest := rest.map (am_sh base b))
      (by rw [List.length_map, hn]; exact hnp _ hsig) (by show (vs.reverse ++ rest).map (am_sh base b) = _; rw [List.map_append, List.map_reverse]) (by rw [am_C.b C]; exact hd)
    obtain ⟨t, st2, he⟩ := am_enter hc hpn hf hlo hen h2 hret hthr C hla (T := T.setVm vm1) hT X1 hnm hd
    exact ⟨t, st1 t st2, he⟩
  · have hlk : (Cond.methodLinkNest (am_y k).cls idx (am_y k2) host).before args s = true := va_Nw.use rfl (C.2.2.1.2.1 _ w1 rfl)
    obtain ⟨vm1, X1, st1⟩ := X.invokestaticNest C.1 (am_C.own C) hlk hnm hm2 hstat hkP hini hy (g := F0 mid pc la ((vs.reverse ++ rest).map (am_sh base b))) rfl (argsL := vs.map (am_sh base b)) (rest := rest.map (am_sh base b))
      (by rw [List.length_map, hn]; exact hnp _ hsig) (by show (vs.reverse ++ rest).map (am_sh base b) = _; rw [List.map_append, List.map_reverse]) (by rw [am_C.b C]; exact hd)
    obtain ⟨t, st2, he⟩ := am_enter hc hpn hf hlo hen h2 hret hthr C hla (T := T.setVm vm1) hT X1 hnm hd
    exact ⟨t, st1 t st2, he⟩
theorem am_callV {sc : Nat × (Nat → Int32)} {k k2 pc q idx n ci a : Nat} {ls vs rest : List Value} {m : am_Mem} {Q Q2 : am_Out → am_Mem → Prop} (hd : am_at k pc (.invokevirtual idx) 3 q) (hs : am_sV k idx k2 ci) (hm : am_mt k2 n) (hk : am_K m a = ci) (hn : vs.length = n) (hf : am_fr k2 + 1 ≤ am_fr k) (hlo : am_cs rest + (am_ml k2 + 11) + am_lo k2 ≤ am_lo k) (hen : (am_en (.ref a :: vs)).length ≤ am_ml k2)
    (h2 : am_W sc k2 0 (am_ent (.ref a :: vs) (am_ml k2)) [] m Q2) (hret : ∀ v m', Q2 (.inl v) m' → am_W sc k q ls (v.toList ++ rest) m' Q) (hthr : ∀ a m', Q2 (.inr a) m' → am_TW sc k pc ls rest a m' Q) : am_W sc k pc ls (vs.reverse ++ .ref a :: rest) m Q := by
  obtain ⟨hd, rfl⟩ := hd
  obtain ⟨w1, w2, w3, hcl2, hci⟩ := hs
  obtain ⟨hc, hpn, hy, hnp⟩ := hm
  intro p l e base b D cy R s mid args below meth c H locs cells slots la C hla T hT X
  obtain ⟨hP, hz0, hO⟩ := C.2.2.2.2.2.2.1
  obtain ⟨i, rfl, hi⟩ := am_K_ix hO hk (by omega)
  have he := am_ws_get (base := base) (cy := cy) hi
  rw [am_cell_o hk (by omega)] at he
  obtain ⟨cell, g1, g2, g3⟩ := va_recv C.2.2.1.2.2.2.2.1 hP hcl2 he
  obtain ⟨mk, meth2, c2, hnm, hm2, -, -, -, -, -, -, hsig⟩ := am_cd_at hc C.2.2.1.1
  obtain ⟨mk', methM, hnamed, hmethM, hstM, habM⟩ := Cond.instanceMethod_spec (am_C.w C w2 rfl (args := args))
  cases hnm.symm.trans hnamed
  cases hm2.symm.trans hmethM
  obtain ⟨c3, r3, m3, q1, q2, q3, q4, kP, hkP, hkPi⟩ := Cond.selects_spec (am_C.w C w3 rfl (args := args))
  cases g3.symm.trans q1
  cases (State.methodFound?_of_named hnamed hy).symm.trans q2
  cases hnamed.symm.trans q3
  have hselP : selectMethod e.platform s.vm cell.cls mk = .method mk := by rw [Launch.admits_selectMethod X.admits]; exact q4
  obtain ⟨vm1, X1, st1⟩ := X.invokevirtual C.1 (am_C.own C) (am_C.w C w1 rfl) hnamed hmethM hstM hkP hkPi hy (a := base + i) (cell := cell) (by rw [hT]; exact g1) (fun z h => by rw [h] at g2; cases g2) hselP hmethM habM hkP hkPi (g := F0 mid pc la ((vs.reverse ++ .ref (i + 1) :: rest).map (am_sh base b))) rfl (argsL := vs.map (am_sh base b)) (rest := rest.map (am_sh base b))
    (by rw [List.length_map, hn]; exact hnp _ hsig) (by show (vs.reverse ++ .ref (i + 1) :: rest).map (am_sh base b) = _; rw [List.map_append, List.map_reverse]; rfl) (by rw [am_C.b C]; exact hd)
  obtain ⟨t, st2, he⟩ := am_enter hc hpn hf hlo hen h2 hret hthr C hla (T := T.setVm vm1) hT X1 hnm hd
  exact ⟨t, st1 t st2, he⟩
theorem am_callI {sc : Nat × (Nat → Int32)} {k k2 pc q idx n a : Nat} {ls vs rest : List Value} {m : am_Mem} {Q Q2 : am_Out → am_Mem → Prop} (hd : am_at k pc (.invokespecial idx) 3 q) (hs : am_sI k idx k2) (hm : am_mt k2 n) (ha : ¬ a = 0) (hn : vs.length = n) (hf : am_fr k2 + 1 ≤ am_fr k) (hlo : am_cs rest + (am_ml k2 + 11) + am_lo k2 ≤ am_lo k) (hen : (am_en (.ref a :: vs)).length ≤ am_ml k2)
    (h2 : am_W sc k2 0 (am_ent (.ref a :: vs) (am_ml k2)) [] m Q2) (hret : ∀ v m', Q2 (.inl v) m' → am_W sc k q ls (v.toList ++ rest) m' Q) (hthr : ∀ a m', Q2 (.inr a) m' → am_TW sc k pc ls rest a m' Q) : am_W sc k pc ls (vs.reverse ++ .ref a :: rest) m Q := by
  obtain ⟨hd, rfl⟩ := hd
  obtain ⟨w1, w2, hy1, w4⟩ := hs
  obtain ⟨hc, hpn, hy, hnp⟩ := hm
  obtain ⟨i, rfl⟩ : ∃ i, a = i + 1 := ⟨a - 1, by omega⟩
  intro p l e base b D cy R s mid args below meth c H locs cells slots la C hla T hT X
  have hpl : e.platform.magicAccessors = ({} : Platform).magicAccessors := by rw [X.admits.platform]
  have hlen : ∀ sig, parseMethodDescriptor (am_y k2).desc = some sig → (vs.map (am_sh base b)).length = sig.parameters.length := fun sig h => by rw [List.length_map, hn]; exact hnp sig h
  have hstk : (F0 mid pc la ((vs.reverse ++ .ref (i + 1) :: rest).map (am_sh base b))).stack = (vs.map (am_sh base b)).reverse ++ .ref (base + i) :: rest.map (am_sh base b) := by
    show (vs.reverse ++ .ref (i + 1) :: rest).map (am_sh base b) = _
    rw [List.map_append, List.map_reverse]; rfl
  rcases w1 with w1 | ⟨host, w1⟩
  · obtain ⟨mk, methM, cM, kP, vm1, hnamed, -, -, -, -, -, -, -, hW1, st1⟩ := Steps.initColdArgs (e := e) (tb := p.tables) X.here C.1 X.warmed hpl (am_C.own C) hy1 hy (am_C.w C w1 rfl (args := args)) (am_C.w C w2 rfl) (am_C.w C w4 rfl) (f := F0 mid pc la ((vs.reverse ++ .ref (i + 1) :: rest).map (am_sh base b))) rfl hlen hstk (by rw [am_C.b C]; exact hd)
    obtain ⟨t, st2, he⟩ := am_enter hc hpn hf hlo hen h2 hret hthr C hla (T := T.setVm vm1) hT (X.noted hW1) hnamed hd
    exact ⟨t, st1 t st2, he⟩
  · have hlk : (Cond.methodLinkNest (am_y k).cls idx (am_y k2) host).before args s = true := va_Nw.use rfl (C.2.2.1.2.1 _ w1 rfl)
    obtain ⟨mk, methM, cM, kP, vm1, hnamed, -, -, -, -, -, -, -, hW1, st1⟩ := Steps.initColdArgsNest (e := e) (tb := p.tables) X.here C.1 X.warmed hpl (am_C.own C) hy1 hy hlk (am_C.w C w2 rfl) (am_C.w C w4 rfl) (f := F0 mid pc la ((vs.reverse ++ .ref (i + 1) :: rest).map (am_sh base b))) rfl hlen hstk (by rw [am_C.b C]; exact hd)
    obtain ⟨t, st2, he⟩ := am_enter hc hpn hf hlo hen h2 hret hthr C hla (T := T.setVm vm1) hT (X.noted hW1) hnamed hd
    exact ⟨t, st1 t st2, he⟩
