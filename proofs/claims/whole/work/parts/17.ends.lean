/-! ends of a method -/
theorem am_ofMQ {sc : Nat × (Nat → Int32)} {k : Nat} {m : am_Mem} {p : Program} {l : Launch} {e : Env} {base b : Nat} {D : va_G} {cy : Nat → ClassId} {R : Room} {s : State} {mid : MethodId} {args : Array Value} {below : List Frame} {meth : Method} {c : Code} {H : Heap} {locs : List Loc} {cells slots : Nat} {Q : am_Out → am_Mem → Prop} {g : JFrame} {v : Option Value}
    (C : am_Ctx sc k m p l base b D cy R s mid meth c H locs cells slots) (hq : Q (.inl v) m)
    (h : W p l e R s mid args below meth c H locs cells slots (MQ below (fun _ _ o t => o = .returned (v.map (am_sh base b)) ∧ t.heap = H) args s cells slots (fun q => base ≤ q)) g) :
    W p l e R s mid args below meth c H locs cells slots (am_End base b D cy R s below Q) g := by
  intro T hT X
  obtain ⟨t, a, o, h1, h2, ⟨h3, h4⟩, L, ⟨-, h5, h6⟩, h7⟩ := h T hT X
  have hS := C.2.2.2.2.2.2.2.1
  refine ⟨t, a, o, .inl v, m, L, cells, slots, h1, h2, hq, h3, ?_, C.2.2.2.2.2.1, h5, h6, ?_, C.2.2.2.2.2.2.2.2⟩
  · rw [h4]; exact C.2.2.2.2.2.2.1
  · rw [h4]; exact ⟨hS.1, hS.2.1, h7⟩
theorem am_iret {sc : Nat × (Nat → Int32)} {k pc q : Nat} {ls : List Value} {m : am_Mem} {Q : am_Out → am_Mem → Prop} {v : Int32} (hd : am_at k pc .ireturn 1 q) (hr : am_rt k = some .int) (hq : Q (.inl (some (.int v))) m) : am_W sc k pc ls [.int v] m Q := by
  obtain ⟨hd, -⟩ := hd
  intro p l e base b D cy R s mid args below meth c H locs cells slots la C hla
  exact am_ofMQ C hq (W.iret C.1 (am_C.b C) (C.2.2.2.1.2.2.1.trans hr) (fun t ht _ => ⟨rfl, ht⟩) C.2.2.2.2.2.2.2.1.2.2 hd C.2.2.2.1.2.2.2.1)
theorem am_zret {sc : Nat × (Nat → Int32)} {k pc q : Nat} {ls : List Value} {m : am_Mem} {Q : am_Out → am_Mem → Prop} {v : Int32} (hd : am_at k pc .ireturn 1 q) (hr : am_rt k = some .boolean) (hv : v = 0 ∨ v = 1) (hq : Q (.inl (some (.int v))) m) : am_W sc k pc ls [.int v] m Q := by
  obtain ⟨hd, -⟩ := hd
  intro p l e base b D cy R s mid args below meth c H locs cells slots la C hla
  exact am_ofMQ C hq (W.zret C.1 (am_C.b C) (C.2.2.2.1.2.2.1.trans hr) (by rcases hv with rfl | rfl <;> rfl) (fun t ht _ => ⟨rfl, ht⟩) C.2.2.2.2.2.2.2.1.2.2 hd C.2.2.2.1.2.2.2.1)
theorem am_lret {sc : Nat × (Nat → Int32)} {k pc q : Nat} {ls : List Value} {m : am_Mem} {Q : am_Out → am_Mem → Prop} {v : Int64} (hd : am_at k pc .lreturn 1 q) (hr : am_rt k = some .long) (hq : Q (.inl (some (.long v))) m) : am_W sc k pc ls [.long v] m Q := by
  obtain ⟨hd, -⟩ := hd
  intro p l e base b D cy R s mid args below meth c H locs cells slots la C hla
  exact am_ofMQ C hq (W.lret C.1 (am_C.b C) (C.2.2.2.1.2.2.1.trans hr) (fun t ht _ => ⟨rfl, ht⟩) C.2.2.2.2.2.2.2.1.2.2 hd C.2.2.2.1.2.2.2.1)
theorem am_aret {sc : Nat × (Nat → Int32)} {k pc q : Nat} {ls : List Value} {m : am_Mem} {Q : am_Out → am_Mem → Prop} {x : Nat} {rt : FieldType} (hd : am_at k pc .areturn 1 q) (hr : am_rt k = some rt) (hrt : (∃ n, rt = .object n) ∨ ∃ t, rt = .array t) (hq : Q (.inl (some (.ref x))) m) : am_W sc k pc ls [.ref x] m Q := by
  obtain ⟨hd, -⟩ := hd
  intro p l e base b D cy R s mid args below meth c H locs cells slots la C hla
  exact am_ofMQ C hq (W.aret C.1 (am_C.b C) (C.2.2.2.1.2.2.1.trans hr) hrt (by cases x with | zero => exact Or.inl rfl | succ x => exact Or.inr ⟨_, rfl⟩) (fun t ht _ => ⟨rfl, ht⟩) C.2.2.2.2.2.2.2.1.2.2 hd C.2.2.2.1.2.2.2.1)
theorem am_vret {sc : Nat × (Nat → Int32)} {k pc q : Nat} {ls : List Value} {m : am_Mem} {Q : am_Out → am_Mem → Prop} (hd : am_at k pc .return_ 1 q) (hr : am_rt k = none) (hq : Q (.inl none) m) : am_W sc k pc ls [] m Q := by
  obtain ⟨hd, -⟩ := hd
  intro p l e base b D cy R s mid args below meth c H locs cells slots la C hla
  exact am_ofMQ C hq (W.vret C.1 (am_C.b C) (C.2.2.2.1.2.2.1.trans hr) (fun t ht _ => ⟨rfl, ht⟩) C.2.2.2.2.2.2.2.1.2.2 hd C.2.2.2.1.2.2.2.1)
/-! 'throw new E("text")', five instructions at once -/
def am_en2 : List String := ["java/lang/RuntimeException", "java/lang/Exception"]
/-- what a throw of the class kd needs of the tables -/
def am_tw (k kd ik is ic : Nat) (text : String) : Prop := 8 ≤ kd ∧ kd < 11 ∧ Bundle.fit (am_r kd).1 = true ∧ Cond.classLink (am_y k).cls ik (am_r kd).1 ∈ lw_tbl ∧ Cond.initialized (am_r kd).1 ∈ lw_tbl ∧ Cond.stringRef (am_y k).cls is text ∈ lw_tbl ∧
  (∀ w ∈ vx_atS (am_y k).cls ic (am_r kd).1 am_en2, w ∈ lw_tbl) ∧ (∀ w ∈ vx_atS (am_y k).cls ic (am_r kd).1 am_en2, (goodWord w || am_xk w) = true) ∧ (∀ w ∈ vx_atS (am_y k).cls ic (am_r kd).1 am_en2, vx_ot w = true)
theorem am_clE {kd : Nat} (h8 : 8 ≤ kd) (h11 : kd < 11) : am_cl[kd]? = some (am_r kd) ∧ am_fk kd = [] ∧ (am_r kd).2.2 = 0 := by
  match kd, h8, h11 with
  | 8, _, _ => exact ⟨rfl, rfl, rfl⟩
  | 9, _, _ => exact ⟨rfl, rfl, rfl⟩
  | 10, _, _ => exact ⟨rfl, rfl, rfl⟩
set_option maxHeartbeats 1000000 in
theorem am_throw {sc : Nat × (Nat → Int32)} {k pc : Nat} {ls st : List Value} {m : am_Mem} {Q : am_Out → am_Mem → Prop} {kd ik is ic : Nat} {text : String} (hw : am_tw k kd ik is ic text) (hh : am_hs k = [])
    (d0 : decode (am_b k) pc = .ok (.new ik, 3)) (d3 : decode (am_b k) (pc + 3) = .ok (.dup, 1)) (d4 : decode (am_b k) (pc + 4) = .ok (.ldc is, 2)) (d6 : decode (am_b k) (pc + 6) = .ok (.invokespecial ic, 3)) (d9 : decode (am_b k) (pc + 9) = .ok (.athrow, 1))
    (hf : 6 ≤ am_fr k) (hlo : am_cs st + 82 ≤ am_lo k) (hc : am_n m + 1 ≤ am_CM) (hs : am_u m + 6 ≤ am_SM) (hq : Q (.inr (am_n m + 1)) (am_new m kd 0 6)) : am_W sc k pc ls st m Q := by
  obtain ⟨hk8, hk11, hcls, wk, wini, wstr, wat, wgood, wot⟩ := hw
  intro p l e base b D cy R s mid args below meth c H locs cells slots la C hla
  obtain ⟨hexec, hl, hF, hFr, hRm, hRmm, ⟨hP, hz0, hO⟩, hS, hex⟩ := id C
  obtain ⟨F1, F2, F3, F4, hK, hX, hbb, hbs, hU, hN⟩ := id hF
  obtain ⟨sa, hstr⟩ := F3 _ _ _ wstr
  have hb : c.code = am_b k := hFr.1
  have hown := am_C.own C
  have hlocks : meth.locks = false := hFr.2.2.2.1
  have hrm := am_rm C hc hs
  have hsize : la.size = c.maxLocals := by rw [hla.1]; exact hFr.2.1.symm
  have hk := am_C.w C wk rfl (args := args)
  have hini := am_C.w C wini rfl (args := args)
  have hat : ∀ w ∈ vx_atS (am_y k).cls ic (am_r kd).1 am_en2, w.before args s = true := by
    intro w hw9
    have hg := wgood w hw9
    rw [Bool.or_eq_true] at hg
    rcases hg with hg | hg
    · exact F1 w (wat w hw9) hg args
    · refine va_tabs (A := #[]) ?_ rfl (F2 w (wat w hw9) hg)
      have := wot w hw9
      cases w <;> first | rfl | (cases hg; done) | exact this
  have hout : ∀ x ∈ c.exceptionTable.toList, covers x (pc + 9) = false := by
    have h9 := hFr.2.2.2.2.2.2
    rw [hh] at h9
    rw [List.map_eq_nil_iff] at h9
    rw [h9]
    exact fun x hx => nomatch hx
  intro T hT X
  have htr : e.platform.stackTraces = false := (show e.platform.stackTraces = l.stackTraces by rw [X.admits.platform]).trans hl
  have Y := vx_rebase X (R' := { frames := R.frames, locals := R.locals, cells := 1, slots := 6 }) (Nat.le_refl _) (Nat.le_refl _) hrm.1 hrm.2
  obtain ⟨s', hA⟩ : ∃ z, z = (T.setVm s.vm).setFrames (.invoking mid args :: below) := ⟨_, rfl⟩
  rw [← hA] at Y
  have hvm : s'.vm = s.vm := by rw [hA]; rfl
  have hhp : s'.heap = H := by rw [hA]; exact hT
  have hW0 : s.WarmedH s'.vm := by rw [hvm]; exact State.WarmedH.refl s
  have hat' : ∀ w ∈ vx_atS (am_y k).cls ic (am_r kd).1 am_en2, w.before args s' = true := fun w hw => vx_ot_at hW0 hvm.symm (wot w hw) (hat w hw)
  have hk' : (Cond.classLink (am_y k).cls ik (am_r kd).1).before args s' = true := vx_ot_at hW0 hvm.symm rfl hk
  have hini' : (Cond.initialized (am_r kd).1).before args s' = true := vx_ot_at hW0 hvm.symm rfl hini
  have hU' : vx_Zq Bundle.tN "UNASSIGNED_STACK" Bundle.steD (fun q => base ≤ q) s' s'.heap := by rw [hhp]; exact vx_Zq.moved hW0.alike (hU.kept hS.2.1)
  have hN' : vx_Zq Bundle.tN "SUPPRESSED_SENTINEL" Bundle.listD (fun q => base ≤ q) s' s'.heap := by rw [hhp]; exact vx_Zq.moved hW0.alike (hN.kept hS.2.1)
  have h : ∀ w ∈ Bundle.ownAtoms (am_y k).cls ic (am_r kd).1 am_en2, w.before args s' = true := vx_own hat' (vx_isRefq hU'.1) (vx_isRefq hN'.1) hU'.2.word hN'.2.word
  have hown' : s'.vm.findClass (am_y k).cls = some mid.cls := by rw [hvm]; exact hown
  have hins : (Cond.instantiable (am_r kd).1 6).before args s' = true := h _ (by simp [Bundle.ownAtoms])
  obtain ⟨vm₁, cX, kX, hfX, hkX, -, -, X₁, st1⟩ := Y.newCold hexec (own := (am_y k).cls) (C := (am_r kd).1) (index := ik) (n := 6) hown' hk' hins hini'
    (g := F0 mid pc la (st.map (am_sh base b))) rfl (by rw [hb]; exact d0) (Nat.le_refl _) (Nat.le_refl _)
  generalize hT1 : (T.setVm vm₁).pushCell { cls := cX, slots := kX.instanceTypes.map defaultValue, vm := .none } = T1 at X₁ st1
  have hcat : (Value.ref T.heap.size).category = 1 := rfl
  have hcellA : T1.heap[T.heap.size]? = some (freshCell cX kX) := by rw [← hT1]; exact State.heap_pushCell_size _ _
  have d3' : decode c.code (pc + 3) = .ok (.dup, 1) := by rw [hb]; exact d3
  have d4' : decode c.code (pc + 4) = .ok (.ldc is, 2) := by rw [hb]; exact d4
  have hstr' : vk_R (am_y k).cls is text sa s' := vk_R.warm hW0 hstr
  have hsum := am_cs_sh base b st
  have hlo2 := Nat.le_trans hlo hRm.2
  obtain ⟨U, hsteps, hrun, hend, hW, hsame, ce, hce, hO2⟩ := X₁.ctorThrowS hexec htr (own := (am_y k).cls) (cls := (am_r kd).1) (names := am_en2) (ic := ic) hown' hcls (by decide +kernel) h (fun x hx => nomatch hx) hfX hkX hcellA (by rw [hhp, hT]; exact Nat.le_refl _) (msg := .ref sa) rfl
    (g := { method := mid, pc := pc + 6, locals := la, stack := .ref sa :: .ref T.heap.size :: .ref T.heap.size :: st.map (am_sh base b), locked := none }) rfl hsize rfl rfl (rest := st.map (am_sh base b)) rfl
    (by rw [hb]; exact d6) (by rw [hb]; exact d9) hout (by show 2 + 3 < R.frames; have := Nat.le_trans hf hRm.1; omega) (by simp only [List.map_cons, List.sum_cons, hcat]; show 2 * 0 + _ + (13 * 3 + 42) ≤ R.locals; rw [hsum]; omega) hlocks
  obtain ⟨f1, f2⟩ := vx_frame hsame
  rw [hhp] at f1 f2
  have hWs : s.WarmedH U.vm := State.WarmedH.trans hW0 hW
  have hcl : s.vm.findClass (am_r kd).1 = some ce.cls := by
    have h9 := hO2.cls
    rw [hvm] at h9
    exact h9
  have hall : s.sameButNew ({ U with vm := s.vm } : State) locs (cells + 1) (slots + 6) := by
    subst hA
    obtain ⟨e1, e2⟩ := hsame
    rw [State.setFrames_setFrames] at e1
    have h2 : (T.setVm s.vm).sameButNew ({ U with vm := s.vm } : State) [] (0 + 1) (0 + 6) := ⟨e1, e2⟩
    have h3 := X.same.trans h2
    rw [List.append_nil] at h3
    exact h3.mono (Nat.le_refl _) (Nat.le_refl _)
  have hTH : T.heap.size = base + am_n m := by rw [hT]; exact hz0
  have hUsz : U.heap.size = base + am_n m + 1 := by
    have u1 : T.heap.size < U.heap.size := (Array.getElem?_eq_some_iff.mp hce).1
    have u2 : U.heap.size ≤ s.heap.size + (cells + 1) := hall.2.2.1
    omega
  have hold : ∀ q : Nat, q < H.size → U.heap[q]? = H[q]? := fun q hq => f2 q hq (fun z hz => nomatch hz)
  obtain ⟨hcl2, hfk0, hr0⟩ := am_clE hk8 hk11
  have hPn : va_P D am_cl (am_ws base cy (am_new m kd 0 6)) U.heap := by
    rw [← am_ws_new (m := m) (m' := am_new m kd 0 6) (E := .inr (kd, [])) rfl (fun c hc => am_new_cell hc) (by
      rw [am_cell_o am_new_K hk11, hfk0]
      rfl)]
    refine (hP.kept (fun k q hk => hold _ (hP k q hk).lt)).app (fun j q hj => ?_)
    have hj0 : j < 1 := (List.getElem?_eq_some_iff.mp hj).1
    rw [show j = 0 by omega] at hj
    cases hj
    refine ⟨am_r kd, hcl2, ce, by show U.heap[base + am_n m]? = _; rw [← hTH]; exact hce, ?_, hO2.vm, fun j hj => ?_⟩
    · exact Option.some.inj (hcl.symm.trans (hK.1 kd _ hcl2).2.1)
    · rw [hr0] at hj
      exact absurd hj (Nat.not_lt_zero _)
  have Cn := am_ctx_new (m' := am_new m kd 0 6) (sz := 6) (locs1 := locs) C hPn ⟨by have := hS.1; omega, fun q h1 h2 => (hold q (Nat.lt_of_lt_of_le h1 hS.1)).trans (hS.2.1 q h1 h2), hS.2.2⟩ hUsz rfl (fun a ha => am_new_Ko ha) hc hs
  refine ⟨U, ?_, .threw T.heap.size, .inr (am_n m + 1), am_new m kd 0 6, locs, cells + 1, slots + 6, hrun, hend, hq, ⟨am_n m, rfl, by rw [hTH]⟩, Cn.2.2.2.2.2.2.1, Cn.2.2.2.2.2.1, hWs, hall, Cn.2.2.2.2.2.2.2.1, Cn.2.2.2.2.2.2.2.2⟩
  refine st1 _ ?_
  show Steps p.tables e below (T1.setTop { method := mid, pc := pc + 3, locals := la, stack := .ref T.heap.size :: st.map (am_sh base b), locked := none }) _
  jvm_step X₁.here [X₁.here.top, hexec, d3', Value.category]
  exact X₁.ldcString hexec (own := (am_y k).cls) (text := text) (index := is) (a := sa) hown' hstr'.1 hstr'.2
    (g := { method := mid, pc := pc + 4, locals := la, stack := .ref T.heap.size :: .ref T.heap.size :: st.map (am_sh base b), locked := none }) rfl d4' _ hsteps
/-! the same where the text's place in the pool is past 255 (ldc_w) -/
set_option maxHeartbeats 1000000 in
theorem am_throwW {sc : Nat × (Nat → Int32)} {k pc : Nat} {ls st : List Value} {m : am_Mem} {Q : am_Out → am_Mem → Prop} {kd ik is ic : Nat} {text : String} (hw : am_tw k kd ik is ic text) (hh : am_hs k = [])
    (d0 : decode (am_b k) pc = .ok (.new ik, 3)) (d3 : decode (am_b k) (pc + 3) = .ok (.dup, 1)) (d4 : decode (am_b k) (pc + 4) = .ok (.ldc_w is, 3)) (d6 : decode (am_b k) (pc + 7) = .ok (.invokespecial ic, 3)) (d9 : decode (am_b k) (pc + 10) = .ok (.athrow, 1))
    (hf : 6 ≤ am_fr k) (hlo : am_cs st + 82 ≤ am_lo k) (hc : am_n m + 1 ≤ am_CM) (hs : am_u m + 6 ≤ am_SM) (hq : Q (.inr (am_n m + 1)) (am_new m kd 0 6)) : am_W sc k pc ls st m Q := by
  obtain ⟨hk8, hk11, hcls, wk, wini, wstr, wat, wgood, wot⟩ := hw
  intro p l e base b D cy R s mid args below meth c H locs cells slots la C hla
  obtain ⟨hexec, hl, hF, hFr, hRm, hRmm, ⟨hP, hz0, hO⟩, hS, hex⟩ := id C
  obtain ⟨F1, F2, F3, F4, hK, hX, hbb, hbs, hU, hN⟩ := id hF
  obtain ⟨sa, hstr⟩ := F3 _ _ _ wstr
  have hb : c.code = am_b k := hFr.1
  have hown := am_C.own C
  have hlocks : meth.locks = false := hFr.2.2.2.1
  have hrm := am_rm C hc hs
  have hsize : la.size = c.maxLocals := by rw [hla.1]; exact hFr.2.1.symm
  have hk := am_C.w C wk rfl (args := args)
  have hini := am_C.w C wini rfl (args := args)
  have hat : ∀ w ∈ vx_atS (am_y k).cls ic (am_r kd).1 am_en2, w.before args s = true := by
    intro w hw9
    have hg := wgood w hw9
    rw [Bool.or_eq_true] at hg
    rcases hg with hg | hg
    · exact F1 w (wat w hw9) hg args
    · refine va_tabs (A := #[]) ?_ rfl (F2 w (wat w hw9) hg)
      have := wot w hw9
      cases w <;> first | rfl | (cases hg; done) | exact this
  have hout : ∀ x ∈ c.exceptionTable.toList, covers x (pc + 10) = false := by
    have h9 := hFr.2.2.2.2.2.2
    rw [hh] at h9
    rw [List.map_eq_nil_iff] at h9
    rw [h9]
    exact fun x hx => nomatch hx
  intro T hT X
  have htr : e.platform.stackTraces = false := (show e.platform.stackTraces = l.stackTraces by rw [X.admits.platform]).trans hl
  have Y := vx_rebase X (R' := { frames := R.frames, locals := R.locals, cells := 1, slots := 6 }) (Nat.le_refl _) (Nat.le_refl _) hrm.1 hrm.2
  obtain ⟨s', hA⟩ : ∃ z, z = (T.setVm s.vm).setFrames (.invoking mid args :: below) := ⟨_, rfl⟩
  rw [← hA] at Y
  have hvm : s'.vm = s.vm := by rw [hA]; rfl
  have hhp : s'.heap = H := by rw [hA]; exact hT
  have hW0 : s.WarmedH s'.vm := by rw [hvm]; exact State.WarmedH.refl s
  have hat' : ∀ w ∈ vx_atS (am_y k).cls ic (am_r kd).1 am_en2, w.before args s' = true := fun w hw => vx_ot_at hW0 hvm.symm (wot w hw) (hat w hw)
  have hk' : (Cond.classLink (am_y k).cls ik (am_r kd).1).before args s' = true := vx_ot_at hW0 hvm.symm rfl hk
  have hini' : (Cond.initialized (am_r kd).1).before args s' = true := vx_ot_at hW0 hvm.symm rfl hini
  have hU' : vx_Zq Bundle.tN "UNASSIGNED_STACK" Bundle.steD (fun q => base ≤ q) s' s'.heap := by rw [hhp]; exact vx_Zq.moved hW0.alike (hU.kept hS.2.1)
  have hN' : vx_Zq Bundle.tN "SUPPRESSED_SENTINEL" Bundle.listD (fun q => base ≤ q) s' s'.heap := by rw [hhp]; exact vx_Zq.moved hW0.alike (hN.kept hS.2.1)
  have h : ∀ w ∈ Bundle.ownAtoms (am_y k).cls ic (am_r kd).1 am_en2, w.before args s' = true := vx_own hat' (vx_isRefq hU'.1) (vx_isRefq hN'.1) hU'.2.word hN'.2.word
  have hown' : s'.vm.findClass (am_y k).cls = some mid.cls := by rw [hvm]; exact hown
  have hins : (Cond.instantiable (am_r kd).1 6).before args s' = true := h _ (by simp [Bundle.ownAtoms])
  obtain ⟨vm₁, cX, kX, hfX, hkX, -, -, X₁, st1⟩ := Y.newCold hexec (own := (am_y k).cls) (C := (am_r kd).1) (index := ik) (n := 6) hown' hk' hins hini'
    (g := F0 mid pc la (st.map (am_sh base b))) rfl (by rw [hb]; exact d0) (Nat.le_refl _) (Nat.le_refl _)
  generalize hT1 : (T.setVm vm₁).pushCell { cls := cX, slots := kX.instanceTypes.map defaultValue, vm := .none } = T1 at X₁ st1
  have hcat : (Value.ref T.heap.size).category = 1 := rfl
  have hcellA : T1.heap[T.heap.size]? = some (freshCell cX kX) := by rw [← hT1]; exact State.heap_pushCell_size _ _
  have d3' : decode c.code (pc + 3) = .ok (.dup, 1) := by rw [hb]; exact d3
  have d4' : decode c.code (pc + 4) = .ok (.ldc_w is, 3) := by rw [hb]; exact d4
  have hstr' : vk_R (am_y k).cls is text sa s' := vk_R.warm hW0 hstr
  have hsum := am_cs_sh base b st
  have hlo2 := Nat.le_trans hlo hRm.2
  obtain ⟨U, hsteps, hrun, hend, hW, hsame, ce, hce, hO2⟩ := X₁.ctorThrowS hexec htr (own := (am_y k).cls) (cls := (am_r kd).1) (names := am_en2) (ic := ic) hown' hcls (by decide +kernel) h (fun x hx => nomatch hx) hfX hkX hcellA (by rw [hhp, hT]; exact Nat.le_refl _) (msg := .ref sa) rfl
    (g := { method := mid, pc := pc + 7, locals := la, stack := .ref sa :: .ref T.heap.size :: .ref T.heap.size :: st.map (am_sh base b), locked := none }) rfl hsize rfl rfl (rest := st.map (am_sh base b)) rfl
    (by rw [hb]; exact d6) (by rw [hb]; exact d9) hout (by show 2 + 3 < R.frames; have := Nat.le_trans hf hRm.1; omega) (by simp only [List.map_cons, List.sum_cons, hcat]; show 2 * 0 + _ + (13 * 3 + 42) ≤ R.locals; rw [hsum]; omega) hlocks
  obtain ⟨f1, f2⟩ := vx_frame hsame
  rw [hhp] at f1 f2
  have hWs : s.WarmedH U.vm := State.WarmedH.trans hW0 hW
  have hcl : s.vm.findClass (am_r kd).1 = some ce.cls := by
    have h9 := hO2.cls
    rw [hvm] at h9
    exact h9
  have hall : s.sameButNew ({ U with vm := s.vm } : State) locs (cells + 1) (slots + 6) := by
    subst hA
    obtain ⟨e1, e2⟩ := hsame
    rw [State.setFrames_setFrames] at e1
    have h2 : (T.setVm s.vm).sameButNew ({ U with vm := s.vm } : State) [] (0 + 1) (0 + 6) := ⟨e1, e2⟩
    have h3 := X.same.trans h2
    rw [List.append_nil] at h3
    exact h3.mono (Nat.le_refl _) (Nat.le_refl _)
  have hTH : T.heap.size = base + am_n m := by rw [hT]; exact hz0
  have hUsz : U.heap.size = base + am_n m + 1 := by
    have u1 : T.heap.size < U.heap.size := (Array.getElem?_eq_some_iff.mp hce).1
    have u2 : U.heap.size ≤ s.heap.size + (cells + 1) := hall.2.2.1
    omega
  have hold : ∀ q : Nat, q < H.size → U.heap[q]? = H[q]? := fun q hq => f2 q hq (fun z hz => nomatch hz)
  obtain ⟨hcl2, hfk0, hr0⟩ := am_clE hk8 hk11
  have hPn : va_P D am_cl (am_ws base cy (am_new m kd 0 6)) U.heap := by
    rw [← am_ws_new (m := m) (m' := am_new m kd 0 6) (E := .inr (kd, [])) rfl (fun c hc => am_new_cell hc) (by
      rw [am_cell_o am_new_K hk11, hfk0]
      rfl)]
    refine (hP.kept (fun k q hk => hold _ (hP k q hk).lt)).app (fun j q hj => ?_)
    have hj0 : j < 1 := (List.getElem?_eq_some_iff.mp hj).1
    rw [show j = 0 by omega] at hj
    cases hj
    refine ⟨am_r kd, hcl2, ce, by show U.heap[base + am_n m]? = _; rw [← hTH]; exact hce, ?_, hO2.vm, fun j hj => ?_⟩
    · exact Option.some.inj (hcl.symm.trans (hK.1 kd _ hcl2).2.1)
    · rw [hr0] at hj
      exact absurd hj (Nat.not_lt_zero _)
  have Cn := am_ctx_new (m' := am_new m kd 0 6) (sz := 6) (locs1 := locs) C hPn ⟨by have := hS.1; omega, fun q h1 h2 => (hold q (Nat.lt_of_lt_of_le h1 hS.1)).trans (hS.2.1 q h1 h2), hS.2.2⟩ hUsz rfl (fun a ha => am_new_Ko ha) hc hs
  refine ⟨U, ?_, .threw T.heap.size, .inr (am_n m + 1), am_new m kd 0 6, locs, cells + 1, slots + 6, hrun, hend, hq, ⟨am_n m, rfl, by rw [hTH]⟩, Cn.2.2.2.2.2.2.1, Cn.2.2.2.2.2.1, hWs, hall, Cn.2.2.2.2.2.2.2.1, Cn.2.2.2.2.2.2.2.2⟩
  refine st1 _ ?_
  show Steps p.tables e below (T1.setTop { method := mid, pc := pc + 3, locals := la, stack := .ref T.heap.size :: st.map (am_sh base b), locked := none }) _
  jvm_step X₁.here [X₁.here.top, hexec, d3', Value.category]
  exact X₁.ldcStringW hexec (own := (am_y k).cls) (text := text) (index := is) (a := sa) hown' hstr'.1 hstr'.2
    (g := { method := mid, pc := pc + 4, locals := la, stack := .ref T.heap.size :: .ref T.heap.size :: st.map (am_sh base b), locked := none }) rfl d4' _ hsteps
