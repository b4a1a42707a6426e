/-! THE CLAIM OUT OF ONE WALK OF THE LAW'S BODY. Your part is whole_start (and what it stands on); all else here is the same for every law, but numbers. -/
def R_law : String := "ReadSideLaw"
def lw_P (b : Addr) (xs : List Int32) (args : Array Value) (s : State) : Prop := args = #[.ref b] ∧ s.IntsAt b xs ∧ xs.length ≤ 4098 ∧ (Jvm.Cond.and given_1 narrow_1).before args s = true
def lw_Q (_ : Array Value) (s : State) (o : Outcome) (t : State) : Prop := o = .returned (some (.int 1)) ∧ Framed s o t [] 601024 7293000
def lw_Z (below : List Frame) (a : Array Value) (s : State) : State → Prop := fun t => ∃ o, t.status = .running ∧ Ended t below o ∧ lw_Q a s o t
/-- the law's own end, with 1 on the stack, nothing written that was there before, its room as the claim has it -/
theorem lw_ret {p : Program} {l : Launch} {e : Env} {s : State} {m : MethodId} {below : List Frame} {meth : Method} {c : Code} {b : Nat} (hx : p.tables.exec = Jvm.exec) (hb : c.code = code) (hr : meth.sig.returnType = ret) (hlocks : meth.locks = false) {pc : Nat} {H : Heap} {ls : Array Slot} (hdg : decode code pc = .ok (.ireturn, 1)) : W p l e room_1 s m #[Value.ref b] below meth c H [] 601024 7293000 (lw_Z below #[Value.ref b] s) (F0 m pc ls [.int 1]) := by
  intro T hT X
  obtain ⟨fs, hret, hrun, hended, hW, hframe⟩ := X.leave (v := some (.int 1)) (hlocks := hlocks) (fun h => by rw [hr] at h; cases h)
  have hmeth' : T.vm.method? m = some meth := X.method'
  refine ⟨T.setFrames fs, ?_, .returned (some (.int 1)), hrun, hended, rfl, ⟨_, rfl⟩, hW, hframe⟩
  jvm_step X.here [X.here.top, hx, hb, hdg, hmeth', hr, ret, narrow_b1]
  (try refine ⟨rfl, ?_⟩); (try refine ⟨rfl, ?_⟩)
  first | (intro acts; rw [hret _ acts rfl rfl rfl]) | rw [hret _ _ rfl rfl rfl]
  exact Steps.refl _
/-- what holds at the law's entry: the machine, the code, the tables' words (any of lw_tbl by 'hts w (by decide +kernel)'), the script of L ints xs at the cell b, what the Statement gives of the start (any of its parts by flat_of_before) -/
def lw_At (p : Program) (s : State) (m : MethodId) (meth : Method) (c : Code) (b L : Nat) (xs : Nat → Int32) : Prop :=
  p.tables.exec = Jvm.exec ∧ c.code = code ∧ meth.sig.returnType = ret ∧ c.maxLocals = 8 ∧ s.vm.findClass R_law = some m.cls ∧ (∀ w ∈ lw_tbl, w.before #[Value.ref b] s = true) ∧ va_X b L xs s s.heap ∧ b < s.heap.size ∧ meth.locks = false ∧ (Jvm.Cond.and given_1 narrow_1).before #[Value.ref b] s = true
/-! THE START: the law's frame holds the abstract machine with an empty memory -/
def am_m0 : am_Mem := ((0, 0), fun _ => 99, fun _ => 0, fun _ _ => 0, fun _ _ => 0, fun _ _ => 0)
def am_isS (w : Cond) : Bool := match w with
  | .stringRef own _ _ => decide (own = "ReadSide")
  | _ => true
theorem am_isS_all : ∀ w ∈ lw_tbl, am_isS w = true := by decide +kernel
theorem am_kn1 {s : State} {b ci n : Nat} (hts : ∀ w ∈ lw_tbl, w.before #[Value.ref b] s = true) (hci : ci < 8) (hi : Cond.instantiable (am_r ci).1 n ∈ lw_tbl) : ∃ (cC : ClassId) (iS : Nat → Nat), u_Kn s (am_r ci).1 (am_r ci).2.1 (am_r ci).2.2 cC iS :=
  u_known hts (am_cp hci).2.2.1 (hts _ hi)
theorem am_kn2 {s : State} {b kd n : Nat} (hts : ∀ w ∈ lw_tbl, w.before #[Value.ref b] s = true) (h8 : 8 ≤ kd) (h11 : kd < 11) (hi : Cond.instantiable (am_r kd).1 n ∈ lw_tbl) : ∃ (cC : ClassId) (iS : Nat → Nat), u_Kn s (am_r kd).1 (am_r kd).2.1 (am_r kd).2.2 cC iS := by
  refine u_known hts (fun w hw => ?_) (hts _ hi)
  rw [(am_clE h8 h11).2.2] at hw
  simp [u_ws] at hw
theorem am_pa {s : State} {b : Nat} {ty : FieldType} (h : (Cond.arrayClass ty).before #[Value.ref b] s = true) (hty : ∀ C, ty ≠ .object C) : ∃ cA : ClassId, ArrOfT s cA ty ∧ va_RA s cA ty := by
  obtain ⟨cA, kA, comp, h1, h2, h3⟩ := Cond.arrayClass_spec h
  refine ⟨cA, fun n z => ⟨fun k h => (by cases h), kA, h2, comp, h3⟩, ?_⟩
  cases ty with
  | object C => exact absurd rfl (hty C)
  | _ => exact h1
theorem am_qa {s : State} {b : Nat} {C : String} (h : (Cond.arrayOver (.object C)).before #[Value.ref b] s = true) : ∃ cA : ClassId, ArrOfT s cA (.object C) ∧ va_RA s cA (.object C) := by
  obtain ⟨comp, cA, kA, h1, -, h2, h3, h4⟩ := Cond.arrayOver_spec h
  exact ⟨cA, fun n z => ⟨fun k h => (by cases h), kA, h2, comp, h3⟩, kA, comp, h2, h3, h1, h4⟩
theorem am_K0 {s : State} {b : Nat} (hts : ∀ w ∈ lw_tbl, w.before #[Value.ref b] s = true) : ∃ (D : va_G) (cy : Nat → ClassId), va_K D am_cl (am_tys cy) s := by
  have h0 := am_kn1 (n := 5) (ci := 0) hts (by decide) (by decide +kernel)
  have h1 := am_kn1 (n := 3) (ci := 1) hts (by decide) (by decide +kernel)
  have h2 := am_kn1 (n := 11) (ci := 2) hts (by decide) (by decide +kernel)
  have h3 := am_kn1 (n := 7) (ci := 3) hts (by decide) (by decide +kernel)
  have h4 := am_kn1 (n := 4) (ci := 4) hts (by decide) (by decide +kernel)
  have h5 := am_kn1 (n := 7) (ci := 5) hts (by decide) (by decide +kernel)
  have h6 := am_kn1 (n := 10) (ci := 6) hts (by decide) (by decide +kernel)
  have h7 := am_kn1 (n := 39) (ci := 7) hts (by decide) (by decide +kernel)
  have h8 := am_kn2 (n := 6) (kd := 8) hts (by decide) (by decide) (by decide +kernel)
  have h9 := am_kn2 (n := 6) (kd := 9) hts (by decide) (by decide) (by decide +kernel)
  have h10 := am_kn2 (n := 6) (kd := 10) hts (by decide) (by decide) (by decide +kernel)
  have hall : ∀ ci, ∃ (q : ClassId × (Nat → Nat)), ci < 11 → u_Kn s (am_r ci).1 (am_r ci).2.1 (am_r ci).2.2 q.1 q.2 := by
    intro ci
    by_cases hci : ci < 11
    · have : ∃ (cC : ClassId) (iS : Nat → Nat), u_Kn s (am_r ci).1 (am_r ci).2.1 (am_r ci).2.2 cC iS := by
        rcases (show ci = 0 ∨ ci = 1 ∨ ci = 2 ∨ ci = 3 ∨ ci = 4 ∨ ci = 5 ∨ ci = 6 ∨ ci = 7 ∨ ci = 8 ∨ ci = 9 ∨ ci = 10 by omega) with rfl | rfl | rfl | rfl | rfl | rfl | rfl | rfl | rfl | rfl | rfl
        · exact h0
        · exact h1
        · exact h2
        · exact h3
        · exact h4
        · exact h5
        · exact h6
        · exact h7
        · exact h8
        · exact h9
        · exact h10
      obtain ⟨cC, iS, h⟩ := this
      exact ⟨(cC, iS), fun _ => h⟩
    · exact ⟨(0, fun _ => 0), fun h => absurd h hci⟩
  have a0 := am_pa (ty := .int) (hts _ (by decide +kernel)) (fun C h => by cases h)
  have a1 := am_pa (ty := .long) (hts _ (by decide +kernel)) (fun C h => by cases h)
  have a2 := am_pa (ty := .boolean) (hts _ (by decide +kernel)) (fun C h => by cases h)
  have a3 := am_qa (C := "ReadSide$Command") (hts _ (by decide +kernel))
  have a4 := am_qa (C := "ReadSide$Log") (hts _ (by decide +kernel))
  have a5 := am_qa (C := "ReadSide$Read") (hts _ (by decide +kernel))
  have a6 := am_qa (C := "ReadSide$Replica") (hts _ (by decide +kernel))
  have a7 := am_qa (C := "ReadSide$Session") (hts _ (by decide +kernel))
  have hal2 : ∀ j, ∃ cA : ClassId, j < 8 → ArrOfT s cA (am_an j) ∧ va_RA s cA (am_an j) := by
    intro j
    by_cases hj : j < 8
    · have : ∃ cA : ClassId, ArrOfT s cA (am_an j) ∧ va_RA s cA (am_an j) := by
        rcases (show j = 0 ∨ j = 1 ∨ j = 2 ∨ j = 3 ∨ j = 4 ∨ j = 5 ∨ j = 6 ∨ j = 7 by omega) with rfl | rfl | rfl | rfl | rfl | rfl | rfl | rfl
        · exact a0
        · exact a1
        · exact a2
        · exact a3
        · exact a4
        · exact a5
        · exact a6
        · exact a7
      obtain ⟨cA, h⟩ := this
      exact ⟨cA, fun _ => h⟩
    · exact ⟨0, fun h => absurd h hj⟩
  refine ⟨(fun ci => (Classical.choose (hall ci)).1, fun ci => (Classical.choose (hall ci)).2), fun x => Classical.choose (hal2 (x - 11)), fun ci q hq => ?_, fun j q hq => ?_⟩
  · have hci : ci < 11 := by
      have := (List.getElem?_eq_some_iff.mp hq).1
      exact this
    have e1 : q = am_r ci := by
      unfold am_r
      rw [List.getD_eq_getElem?_getD, hq]
      rfl
    rw [e1]
    exact Classical.choose_spec (hall ci) hci
  · have hj : j < 8 := by
      have := (List.getElem?_eq_some_iff.mp hq).1
      rwa [am_tyl] at this
    rw [am_tys_at _ hj] at hq
    cases hq
    have e2 : 11 + j - 11 = j := by omega
    show ArrOfT s (Classical.choose (hal2 (11 + j - 11))) (am_an j) ∧ va_RA s (Classical.choose (hal2 (11 + j - 11))) (am_an j)
    rw [e2]
    exact Classical.choose_spec (hal2 j) hj
theorem am_go {p : Program} {e : Env} {s : State} {m : MethodId} {below : List Frame} {meth : Method} {c : Code} (l : Launch) {b L : Nat} {xs : Nat → Int32} (hl : l.stackTraces = false) (hnm : meth.name = "law") (htab : c.exceptionTable.toList = []) (C0 : lw_At p s m meth c b L xs)
    (hrun : am_W (L, xs) 131 0 (am_ent [.retAddr 0] 8) [] am_m0 (fun o _ => o = .inl (some (.int 1)))) : W p l e room_1 s m #[Value.ref b] below meth c s.heap [] 0 0 (lw_Z below #[Value.ref b] s) (entryFrame m ([Value.ref b] : List Value).toArray 8) := by
  obtain ⟨hx, hb, hr, hml, hown, hts, hX, hbl, hlocks, hgv⟩ := id C0
  obtain ⟨D, cy, hK⟩ := am_K0 hts
  have hs := flat_of_before _ hgv
  have hA : ∀ a : Nat, a < s.heap.size → ¬ (fun q => s.heap.size ≤ q) a := fun a h => Nat.not_le.mpr h
  have hF : am_F s.heap.size b (L, xs) D cy s := by
    refine ⟨fun w hw hg a => word_at (State.WarmedH.refl s) (good_of_word hg) (hts w hw), fun w hw hg => ?_, fun own k tx hw => ?_, fun q hq => ?_, hK, hX, hbl, Nat.le_refl _, ?_, ?_⟩
    · have h9 := hts w hw
      cases w with
      | methodLinkNest a i x h => exact va_Nw.of rfl h9
      | castable a c => exact va_Nw.of rfl h9
      | declares x => exact va_Nw.of rfl h9
      | arrayOver t => cases t with
        | object C => exact va_AO.of h9
        | _ => cases hg
      | _ => cases hg
    · have h8 := am_isS_all _ hw
      have h7 : own = "ReadSide" := of_decide_eq_true h8
      subst h7
      have h9 := hts _ hw
      obtain ⟨cur, kk, hcur, -⟩ := Cond.instantiable_spec (hts (.instantiable "ReadSide" 10) (by decide +kernel))
      obtain ⟨-, -, -, a, -, -, -, -, -, h6⟩ := Cond.stringRef_spec hcur h9
      exact ⟨a, vk_R.of h9 h6⟩
    · have h9 : ∀ q ∈ am_ncs, Cond.not (.castable q.1 q.2) ∈ flatC (Jvm.Cond.and given_1 narrow_1) := by decide +kernel
      exact va_Nc.of (hs _ (h9 q hq))
    · exact vx_Zqof (hts (.laysStatic Bundle.tN "UNASSIGNED_STACK" Bundle.steD) (by decide +kernel)) (hts (.initialized Bundle.tN) (by decide +kernel)) (hs _ (by decide +kernel)) hA
    · exact vx_Zqof (hts (.laysStatic Bundle.tN "SUPPRESSED_SENTINEL" Bundle.listD) (by decide +kernel)) (hts (.initialized Bundle.tN) (by decide +kernel)) (hs _ (by decide +kernel)) hA
  have C : am_Ctx (L, xs) 131 am_m0 p l s.heap.size b D cy room_1 s m meth c s.heap [] 0 0 := by
    refine ⟨hx, hl, hF, ⟨hb, hml, hr, hlocks, hown, hnm, by rw [htab]; rfl⟩, ⟨by decide +kernel, by decide +kernel⟩, ⟨by decide, by decide, by decide +kernel, by decide +kernel⟩, ⟨fun k q h => by simp [am_ws, am_n, am_m0] at h, rfl, fun _ _ => rfl⟩, va_S.rf, rfl⟩
  have hrun2 := hrun p l e s.heap.size b D cy room_1 s m #[Value.ref b] below meth c s.heap [] 0 0 _ C (am_ent_ls s.heap.size b [.retAddr 0] 8 (by decide))
  rw [lg_entry_eq]
  intro T hT X
  obtain ⟨t, st, o, out, m', L', k', n', h1, h2, hq, hoo, hrel, hrm, hW, hsame, hva, hex⟩ := hrun2 T hT X
  subst hq
  have ho : o = .returned (some (.int 1)) := hoo
  subst ho
  unfold am_Rm at hrm
  refine ⟨t, st, _, h1, h2, rfl, ⟨_, rfl⟩, hW, ?_⟩
  have hc : k' ≤ 601024 := by have := hrm.2.2.1; have e9 : room_1.cells = 601024 := rfl; omega
  have hn : n' ≤ 7293000 := by have := hrm.2.2.2; have e9 : room_1.slots = 7293000 := rfl; omega
  obtain ⟨e1, e2, e3, e4, e5, e6⟩ := hsame.mono hc hn
  refine ⟨e1, e2, e3, e4, e5, fun a c0 h0 => ?_⟩
  obtain ⟨c', g1, g2, g3, g4⟩ := e6 a c0 h0
  refine ⟨c', g1, g2, g3, fun i _ => g4 i (fun hm => ?_)⟩
  have h5 : s.heap.size ≤ a := hva.2.2 _ hm
  have h6 : a < s.heap.size := (Array.getElem?_eq_some_iff.mp h0).1
  exact absurd h6 (Nat.not_lt.mpr h5)
