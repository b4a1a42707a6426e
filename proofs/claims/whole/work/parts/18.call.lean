/-! calls -/
theorem am_steps_up {tb : Tables} {e : Env} {f : Frame} {below : List Frame} {s t : State} (h : Steps tb e (f :: below) s t) : Steps tb e below s t := by
  obtain ⟨n, hn, hw⟩ := h
  refine ⟨n, hn, fun k hk => ?_⟩
  obtain ⟨ab, h1, h2, h3⟩ := hw k hk
  refine ⟨ab ++ [f], by rw [h1]; simp, by simp, fun a h => ?_⟩
  cases ab with
  | nil => exact h2 rfl
  | cons x r =>
    have := congrArg List.length h
    simp at this
theorem am_F.moved {base b : Nat} {sc : Nat × (Nat → Int32)} {D : va_G} {cy : Nat → ClassId} {s U : State} (h : am_F base b sc D cy s) (hW : s.WarmedH U.vm) (hz : s.heap.size ≤ U.heap.size) (ho : ∀ q, q < s.heap.size → ¬ base ≤ q → U.heap[q]? = s.heap[q]?) : am_F base b sc D cy U := by
  obtain ⟨F1, F2, F3, F4, hK, hX, hbb, hbs, hU, hN⟩ := h
  refine ⟨fun w hw hg a => word_at hW (good_of_word hg) (F1 w hw hg #[]), fun w hw hg => ?_, fun own k tx hw => ?_, fun q hq => va_Nc.moved hW.alike (F4 q hq), va_K.moved hW.alike hK, ?_, hbb, Nat.le_trans hbs hz, ?_, ?_⟩
  · have h9 := F2 w hw hg
    cases w with
    | methodLinkNest a i x h => exact va_Nw.warmM hW h9
    | castable a c => exact va_Nw.warmC hW h9
    | declares x => exact va_Nw.warmD hW h9
    | arrayOver t => cases t with
      | object C => exact va_AO.moved hW.alike h9
      | _ => cases hg
    | _ => cases hg
  · obtain ⟨sa, h9⟩ := F3 own k tx hw
    exact ⟨sa, vk_R.warm hW h9⟩
  · exact va_X.moved hW.alike (hX.kept (ho b (Nat.lt_of_lt_of_le hbb hbs) (Nat.not_le.mpr hbb)))
  · exact vx_Zq.moved hW.alike (hU.kept ho)
  · exact vx_Zq.moved hW.alike (hN.kept ho)
/-- the object a is thrown over the frame of method k at pc -/
def am_TW (sc : Nat × (Nat → Int32)) (k pc : Nat) (ls rest : List Value) (a : Nat) (m : am_Mem) (Q : am_Out → am_Mem → Prop) : Prop :=
  ∀ (p : Program) (l : Launch) (e : Env) (base b : Nat) (D : va_G) (cy : Nat → ClassId) (R : Room) (s : State) (mid : MethodId) (args : Array Value) (below : List Frame) (meth : Method) (c : Code) (H : Heap) (locs : List Loc) (cells slots : Nat) (la : Array Slot) (x : Nat),
    am_Ctx sc k m p l base b D cy R s mid meth c H locs cells slots → am_ls base b ls la (am_ml k) → a = x + 1 → ∀ T : State, T.heap = H → Stand p l e R s mid args below meth c T locs cells slots →
    ∃ t, Steps p.tables e below ((T.setTop (F0 mid pc la (rest.map (am_sh base b)))).pushFrame (.throwing (base + x))) t ∧ am_End base b D cy R s below Q t
theorem am_out {sc : Nat × (Nat → Int32)} {k pc : Nat} {ls rest : List Value} {a : Nat} {m : am_Mem} {Q : am_Out → am_Mem → Prop} (hh : am_hs k = []) (hq : Q (.inr a) m) : am_TW sc k pc ls rest a m Q := by
  intro p l e base b D cy R s mid args below meth c H locs cells slots la x C hla hx T hT X
  have hout : ∀ y ∈ c.exceptionTable.toList, covers y (F0 mid pc la (rest.map (am_sh base b))).pc = false := by
    have h9 := C.2.2.2.1.2.2.2.2.2.2
    rw [hh, List.map_eq_nil_iff] at h9
    rw [h9]
    exact fun x hx => nomatch hx
  obtain ⟨st1, hrun, hend, hW, hsm⟩ := X.leaveThrown (base + x) (g := F0 mid pc la (rest.map (am_sh base b))) rfl rfl rfl hout C.2.2.2.1.2.2.2.1
  refine ⟨_, st1, .threw (base + x), .inr a, m, locs, cells, slots, hrun, hend, hq, ⟨x, hx, rfl⟩, ?_, C.2.2.2.2.2.1, hW, hsm, ?_, C.2.2.2.2.2.2.2.2⟩
  · show am_Rel base D cy m T.heap
    rw [hT]; exact C.2.2.2.2.2.2.1
  · show va_S _ s.heap T.heap locs
    rw [hT]; exact C.2.2.2.2.2.2.2.1
/-- the words of a handler's row: its class is the one of kind kd -/
theorem am_catch {sc : Nat × (Nat → Int32)} {k pc : Nat} {ls rest : List Value} {a kd : Nat} {m : am_Mem} {Q : am_Out → am_Mem → Prop} (pre : List (Nat × Nat × Nat × Nat)) (x0 : Nat × Nat × Nat × Nat) (suf : List (Nat × Nat × Nat × Nat)) (hh : am_hs k = pre ++ x0 :: suf)
    (hk : am_K m a = kd) (h8 : 8 ≤ kd) (h11 : kd < 11) (hx : x0.1 ≤ pc ∧ pc < x0.2.1) (h0 : x0.2.2.2 ≠ 0) (hw : Cond.classLink (am_y k).cls x0.2.2.2 (am_r kd).1 ∈ lw_tbl) (hc : Cond.castable (am_r kd).1 (am_r kd).1 ∈ lw_tbl)
    (hpre : ∀ y ∈ pre, y.2.2.2 ≠ 0 ∧ ∃ nm, Cond.classLink (am_y k).cls y.2.2.2 nm ∈ lw_tbl ∧ ((am_r kd).1, nm) ∈ am_ncs) (h : am_W sc k x0.2.2.1 ls [.ref a] m Q) : am_TW sc k pc ls rest a m Q := by
  intro p l e base b D cy R s mid args below meth c H locs cells slots la x C hla hax T hT X
  obtain ⟨hP, hz0, hO⟩ := C.2.2.2.2.2.2.1
  obtain ⟨F1, F2, F3, F4, hK, -⟩ := C.2.2.1
  obtain ⟨i, rfl, hi⟩ := am_K_ix hO hk (by omega)
  obtain rfl : i = x := by omega
  obtain ⟨hcl2, hfk0, hr0⟩ := am_clE h8 h11
  have he := am_ws_get (base := base) (cy := cy) hi
  rw [am_cell_o hk h11] at he
  obtain ⟨cell, g1, g2, g3⟩ := va_recv hK hP hcl2 he
  have hpl : e.platform.magicAccessors = ({} : Platform).magicAccessors := by rw [X.admits.platform]
  have hown := am_C.own C
  have hcast : (Cond.castable (am_r kd).1 (am_r kd).1).before args s = true := va_tabs (A := #[]) rfl rfl (F2 _ hc rfl)
  obtain ⟨c3, c4, hc3, hc4, hasg⟩ := Cond.castable_spec hcast
  cases Option.some.inj (hc3.symm.trans g3)
  obtain ⟨c5, hc5, hcl5⟩ := Cond.classLink_spec hown (am_C.w C hw rfl (args := args)) e.platform hpl
  cases Option.some.inj (hc4.symm.trans hc5)
  have htab := C.2.2.2.1.2.2.2.2.2.2
  rw [hh] at htab
  obtain ⟨L1, L2, hL, hL1, hL2⟩ := List.map_eq_append_iff.mp htab
  obtain ⟨y, L3, hL3, hy, hL4⟩ := List.map_eq_cons_iff.mp hL2
  subst hL3
  subst hy
  obtain ⟨vm', X', st⟩ := cx_caught X (base + i) (g := F0 mid pc la (rest.map (am_sh base b))) rfl (cell := cell) (by rw [hT]; exact g1) g2 (by obtain ⟨k9, h9, -⟩ := Vm.findClass_spec g3; exact ⟨k9, h9⟩) L1 y L3 hL
    (fun z hz => by
      have hz2 : (z.startPc, z.endPc, z.handlerPc, z.catchType) ∈ pre := by rw [← hL1]; exact List.mem_map.mpr ⟨z, hz, rfl⟩
      obtain ⟨n0, nm, w1, w2⟩ := hpre _ hz2
      obtain ⟨c6, hc6, hcl6⟩ := Cond.classLink_spec hown (am_C.w C w1 rfl (args := args)) e.platform hpl
      obtain ⟨a8, b8, q1, q2, q3⟩ := F4 _ w2
      cases Option.some.inj (q1.symm.trans g3)
      cases Option.some.inj (q2.symm.trans hc6)
      exact Or.inr ⟨n0, _, hcl6, q3⟩) (by simp only [covers]; simpa using hx) h0 hcl5 hasg
  obtain ⟨t, a1, b1⟩ := h p l e base b D cy R s mid args below meth c H locs cells slots la C hla (T.setVm vm') hT X'
  exact ⟨t, st t a1, b1⟩
/-! the entry of a callee -/
def am_en : List Value → List Value
  | [] => []
  | v :: r => if v.category = 2 then v :: .retAddr 1 :: am_en r else v :: am_en r
def am_ent (vs : List Value) (n : Nat) : List Value := am_en vs ++ List.replicate (n - (am_en vs).length) (.retAddr 1)
theorem am_en_sl (base b : Nat) : ∀ (vs : List Value), (am_en vs).length = (lg_sl (vs.map (am_sh base b))).length ∧ ∀ (i : Nat) (v : Value), (am_en vs)[i]? = some v → am_kn v = true → (lg_sl (vs.map (am_sh base b)))[i]? = some (.val (am_sh base b v)) := by
  intro vs
  induction vs with
  | nil => exact ⟨rfl, fun i v h => by simp [am_en] at h⟩
  | cons v r ih =>
    obtain ⟨h1, h2⟩ := ih
    have e1 : lg_sl ((v :: r).map (am_sh base b)) = (if (am_sh base b v).category = 2 then [.val (am_sh base b v), .second] else [.val (am_sh base b v)]) ++ lg_sl (r.map (am_sh base b)) := by
      simp [lg_sl]
    rw [e1, am_sh_cat]
    by_cases hc : v.category = 2
    · rw [if_pos hc]
      have e2 : am_en (v :: r) = v :: .retAddr 1 :: am_en r := by simp [am_en, hc]
      rw [e2]
      refine ⟨by simp [h1], fun i w hi hk => ?_⟩
      match i with
      | 0 =>
        simp at hi
        subst hi
        rfl
      | 1 =>
        simp at hi
        subst hi
        cases hk
      | i + 2 =>
        have h3 := h2 i w (by simpa using hi) hk
        simpa using h3
    · rw [if_neg hc]
      have e2 : am_en (v :: r) = v :: am_en r := by simp [am_en, hc]
      rw [e2]
      refine ⟨by simp [h1], fun i w hi hk => ?_⟩
      match i with
      | 0 =>
        simp at hi
        subst hi
        rfl
      | i + 1 =>
        have h3 := h2 i w (by simpa using hi) hk
        simpa using h3
theorem am_ent_ls (base b : Nat) (vs : List Value) (n : Nat) (hn : (am_en vs).length ≤ n) : am_ls base b (am_ent vs n) ((lg_sl (vs.map (am_sh base b)) ++ List.replicate (n - (lg_sl (vs.map (am_sh base b))).length) Slot.unset).toArray) n := by
  obtain ⟨h1, h2⟩ := am_en_sl base b vs
  obtain ⟨g1, g2, -⟩ := lv_entry (vs.map (am_sh base b)) (n := n) (by rw [← h1]; exact hn)
  refine ⟨g1, g2, fun i v hi hk => ?_⟩
  by_cases hl : i < (am_en vs).length
  · rw [am_ent, List.getElem?_append_left hl] at hi
    have h3 := h2 i v hi hk
    rw [List.getElem?_toArray, List.getElem?_append_left (by rw [← h1]; exact hl)]
    exact h3
  · rw [am_ent, List.getElem?_append_right (by omega), List.getElem?_replicate] at hi
    split at hi
    · cases hi
      cases hk
    · cases hi
/-- the code of method k2 is in the tables -/
def am_cd (k2 : Nat) : Prop := (Cond.code (am_y k2) (am_b k2) (am_ml k2) (am_rt k2) ∈ lw_tbl ∧ am_hs k2 = []) ∨ Cond.codeWith (am_y k2) (am_b k2) (am_ml k2) (am_rt k2) (am_hs k2) ∈ lw_tbl
theorem am_cd_at {s : State} {k2 : Nat} (hc : am_cd k2) (F1 : ∀ w ∈ lw_tbl, goodWord w = true → ∀ a, w.before a s = true) :
    ∃ mk meth2 c2, s.methodNamed? (am_y k2) = some mk ∧ s.vm.method? mk = some meth2 ∧ meth2.code = some c2 ∧ c2.code = am_b k2 ∧ c2.maxLocals = am_ml k2 ∧ meth2.sig.returnType = am_rt k2 ∧ meth2.locks = false ∧
      c2.exceptionTable.toList.map (fun h => (h.startPc, h.endPc, h.handlerPc, h.catchType)) = am_hs k2 ∧ parseMethodDescriptor (am_y k2).desc = some meth2.sig := by
  rcases hc with ⟨hw, hh⟩ | hw
  · have hcode := F1 _ hw rfl #[]
    obtain ⟨mk, hn⟩ := Cond.code_named hcode
    obtain ⟨meth2, c2, h1, h2, h3, h4, h5, h6, h7, h8⟩ := Cond.code_spec hn hcode
    refine ⟨mk, meth2, c2, hn, h1, h2, h3, h4, h5, h6, ?_, h8⟩
    have : c2.exceptionTable.toList = [] := by simpa using h7
    rw [this, hh]
    rfl
  · obtain ⟨mk, meth2, c2, hn, h1, h2, h3, h4, h5, h6, h7, h8⟩ := Cond.codeWith_spec (F1 _ hw rfl #[])
    exact ⟨mk, meth2, c2, hn, h1, h2, h3, h4, h6, h7, h5, h8⟩
set_option maxHeartbeats 1000000 in
theorem am_enter {sc : Nat × (Nat → Int32)} {k k2 pc : Nat} {ls vs rest : List Value} {m : am_Mem} {Q Q2 : am_Out → am_Mem → Prop} (hc : am_cd k2) (hpn : plainName (am_y k2).cls = true) (hf : am_fr k2 + 1 ≤ am_fr k) (hlo : am_cs rest + (am_ml k2 + 11) + am_lo k2 ≤ am_lo k) (hen : (am_en vs).length ≤ am_ml k2)
    (h2 : am_W sc k2 0 (am_ent vs (am_ml k2)) [] m Q2) (hret : ∀ v m', Q2 (.inl v) m' → am_W sc k (pc + 3) ls (v.toList ++ rest) m' Q) (hthr : ∀ a m', Q2 (.inr a) m' → am_TW sc k pc ls rest a m' Q)
    {p : Program} {l : Launch} {e : Env} {base b : Nat} {D : va_G} {cy : Nat → ClassId} {R : Room} {s : State} {mid : MethodId} {args : Array Value} {below : List Frame} {meth : Method} {c : Code} {H : Heap} {locs : List Loc} {cells slots : Nat} {la : Array Slot}
    (C : am_Ctx sc k m p l base b D cy R s mid meth c H locs cells slots) (hla : am_ls base b ls la (am_ml k)) {T : State} (hT : T.heap = H) (X : Stand p l e R s mid args below meth c T locs cells slots) {mk : MethodId} (hn : s.methodNamed? (am_y k2) = some mk) {ig : Instr} (hdg : decode (am_b k) pc = .ok (ig, 3)) :
    ∃ t, (∀ acts, Steps p.tables e below (doInvoke e (T.setTop (F0 mid pc la (rest.map (am_sh base b)))) acts mk (vs.map (am_sh base b)).toArray).1 t) ∧ am_End base b D cy R s below Q t := by
  obtain ⟨hexec, hl, hF, hFr, hRm, hRmm, ⟨hP, hz0, hO⟩, hS, hex⟩ := id C
  obtain ⟨mk', meth2, c2, hn', hm2, hc2, hb2, hml2, hr2, hlk2, htab2, hsig2⟩ := am_cd_at hc hF.1
  cases hn.symm.trans hn'
  have hRmm' := hRmm
  unfold am_Rm at hRmm'
  have hsz : (F0 mid pc la (rest.map (am_sh base b))).locals.size = c.maxLocals := by show la.size = _; rw [hla.1]; exact hFr.2.1.symm
  have hmT : T.vm.method? mk = some meth2 := by rw [X.warmed.alike.method?]; exact hm2
  have hpk : T.plainMethod mk := by
    intro kc hkc
    obtain ⟨k0, hk0, hnm⟩ := className_of_methodNamed hn
    obtain ⟨k1, hk1, he1⟩ := X.warmed.alike.2.2 _ _ hk0
    cases hk1.symm.trans hkc
    refine plain_of_name ?_
    rw [he1]
    show plainName k0.name = true
    rw [hnm]
    exact hpn
  obtain ⟨Y, hdo⟩ := X.into (g := F0 mid pc la (rest.map (am_sh base b))) rfl hsz (by rw [hFr.1]; exact hdg) (vs.map (am_sh base b)).toArray (R' := { frames := am_fr k2, cells := am_CM - am_n m, slots := am_SM - am_u m, locals := am_lo k2 }) hmT hc2 hlk2 hpk
    (Nat.le_trans hf hRm.1) (by show 2 * 0 + _ + (c2.maxLocals + 11) + am_lo k2 ≤ _; rw [am_cs_sh, hml2]; have := Nat.le_trans hlo hRm.2; omega) (by show cells + (am_CM - am_n m) ≤ _; omega) (by show slots + (am_SM - am_u m) ≤ _; omega)
  have hsh : (T.calling (F0 mid pc la (rest.map (am_sh base b))) mk (vs.map (am_sh base b)).toArray).heap = H := hT
  have hWs : s.WarmedH (T.calling (F0 mid pc la (rest.map (am_sh base b))) mk (vs.map (am_sh base b)).toArray).vm := X.warmed
  have hF2 : am_F base b sc D cy (T.calling (F0 mid pc la (rest.map (am_sh base b))) mk (vs.map (am_sh base b)).toArray) :=
    hF.moved hWs (by rw [hsh]; exact hS.1) (fun q h1 h2 => by rw [hsh]; exact hS.2.1 q h1 h2)
  have C2 : am_Ctx sc k2 m p l base b D cy { frames := am_fr k2, cells := am_CM - am_n m, slots := am_SM - am_u m, locals := am_lo k2 } (T.calling (F0 mid pc la (rest.map (am_sh base b))) mk (vs.map (am_sh base b)).toArray) mk meth2 c2 H [] 0 0 := by
    refine ⟨hexec, hl, hF2, ⟨hb2, hml2, hr2, hlk2, ?_, (name_of_methodNamed hn hm2).1, htab2⟩, ⟨Nat.le_refl _, Nat.le_refl _⟩, ?_, ⟨hP, hz0, hO⟩, ?_, ?_⟩
    · rw [hWs.alike.findClass]
      exact findClass_of_methodNamed hn
    · unfold am_Rm
      exact ⟨hRmm'.1, hRmm'.2.1, by show 0 + (am_CM - am_n m) ≤ am_CM - am_n m; omega, by show 0 + (am_SM - am_u m) ≤ am_SM - am_u m; omega⟩
    · rw [hsh]; exact va_S.rf
    · rw [hsh, hz0]; omega
  have hW2 := h2 p l e base b D cy _ _ mk (vs.map (am_sh base b)).toArray (.java (F0 mid pc la (rest.map (am_sh base b))) :: below) meth2 c2 H [] 0 0 _ C2 (am_ent_ls base b vs (am_ml k2) hen)
  rw [List.map_nil, ← lg_entry_eq, ← hml2] at hW2
  obtain ⟨t2, st2, o, out, m', L, k', n', h1, hend, hq, hoo, hrel, hrm, hwm, hsame, hva, hex'⟩ := hW2 _ (show ((T.setTop (F0 mid pc la (rest.map (am_sh base b)))).pushFrame (.java (entryFrame mk (vs.map (am_sh base b)).toArray c2.maxLocals))).heap = H from hT) Y
  have hst3 : ∀ acts, Steps p.tables e below (doInvoke e (T.setTop (F0 mid pc la (rest.map (am_sh base b)))) acts mk (vs.map (am_sh base b)).toArray).1 t2 := fun acts => by rw [hdo acts]; exact am_steps_up st2
  have hctx : ∀ T' : State, T'.heap = t2.heap → s.WarmedH T'.vm → am_Ctx sc k m' p l base b D cy R s mid meth c T'.heap (locs ++ L) (cells + k') (slots + n') := by
    intro T' hT' _
    unfold am_Rm at hrm
    rw [hsh] at hva hex'
    rw [hT']
    refine ⟨hexec, hl, hF, hFr, hRm, ?_, hrel, ⟨Nat.le_trans hS.1 hva.1, fun q g1 g2 => (hva.2.1 q (Nat.lt_of_lt_of_le g1 hS.1) g2).trans (hS.2.1 q g1 g2), fun z hz => ?_⟩, ?_⟩
    · unfold am_Rm
      have r3 : k' + (am_CM - am_n m') ≤ am_CM - am_n m := hrm.2.2.1
      have r4 : n' + (am_SM - am_u m') ≤ am_SM - am_u m := hrm.2.2.2
      refine ⟨hrm.1, hrm.2.1, by omega, by omega⟩
    · rcases List.mem_append.mp hz with h | h
      · exact hS.2.2 z h
      · exact hva.2.2 z h
    · omega
  cases out with
  | inl v =>
    have ho : o = .returned (v.map (am_sh base b)) := hoo
    subst ho
    obtain ⟨T', X', hW', hB', ht⟩ := X.outOf rfl (by rw [hFr.1]; exact hdg) hend hwm hsame
    have hhT : T'.heap = t2.heap := by rw [ht]; rfl
    obtain ⟨t3, st3, he3⟩ := hret v m' hq p l e base b D cy R s mid args below meth c T'.heap (locs ++ L) (cells + k') (slots + n') la (hctx T' hhT X'.warmed) hla T' rfl X'
    refine ⟨t3, fun acts => (hst3 acts).trans ?_, he3⟩
    rw [ht]
    have e5 : (v.toList ++ rest).map (am_sh base b) = (v.map (am_sh base b)).toList ++ rest.map (am_sh base b) := by cases v <;> rfl
    rw [e5] at st3
    exact st3
  | inr a =>
    obtain ⟨x, hax, ho⟩ := hoo
    subst ho
    obtain ⟨T', X', hW', hB', ht⟩ := X.outOfThrown rfl hend hwm hsame
    have hhT : T'.heap = t2.heap := by rw [ht]; rfl
    obtain ⟨t3, st3, he3⟩ := hthr a m' hq p l e base b D cy R s mid args below meth c T'.heap (locs ++ L) (cells + k') (slots + n') la x (hctx T' hhT X'.warmed) hla hax T' rfl X'
    refine ⟨t3, fun acts => (hst3 acts).trans ?_, he3⟩
    rw [ht]
    exact st3
