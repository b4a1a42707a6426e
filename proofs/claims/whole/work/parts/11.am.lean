/-! THE ABSTRACT MACHINE: typed memory (kind, length, ints, longs, references by relative addresses, 0 is null) -/
abbrev am_Mem : Type := (Nat × Nat) × (Nat → Nat) × (Nat → Nat) × (Nat → Nat → Int32) × (Nat → Nat → Int64) × (Nat → Nat → Nat)
def am_n (m : am_Mem) : Nat := m.1.1
def am_u (m : am_Mem) : Nat := m.1.2
def am_K (m : am_Mem) (a : Nat) : Nat := m.2.1 a
def am_L (m : am_Mem) (a : Nat) : Nat := m.2.2.1 a
def am_I (m : am_Mem) (a j : Nat) : Int32 := m.2.2.2.1 a j
def am_J (m : am_Mem) (a j : Nat) : Int64 := m.2.2.2.2.1 a j
def am_R (m : am_Mem) (a j : Nat) : Nat := m.2.2.2.2.2 a j
def am_put {α : Type} (f : Nat → Nat → α) (a j : Nat) (v : α) : Nat → Nat → α := fun b i => if b = a ∧ i = j then v else f b i
def am_row {α : Type} (f : Nat → Nat → α) (a : Nat) (g : Nat → α) : Nat → Nat → α := fun b i => if b = a then g i else f b i
def am_up {α : Type} (f : Nat → α) (a : Nat) (v : α) : Nat → α := fun b => if b = a then v else f b
def am_setI (m : am_Mem) (a j : Nat) (v : Int32) : am_Mem := (m.1, m.2.1, m.2.2.1, am_put m.2.2.2.1 a j v, m.2.2.2.2.1, m.2.2.2.2.2)
def am_setJ (m : am_Mem) (a j : Nat) (v : Int64) : am_Mem := (m.1, m.2.1, m.2.2.1, m.2.2.2.1, am_put m.2.2.2.2.1 a j v, m.2.2.2.2.2)
def am_setR (m : am_Mem) (a j : Nat) (v : Nat) : am_Mem := (m.1, m.2.1, m.2.2.1, m.2.2.2.1, m.2.2.2.2.1, am_put m.2.2.2.2.2 a j v)
def am_rowI (m : am_Mem) (a : Nat) (g : Nat → Int32) : am_Mem := (m.1, m.2.1, m.2.2.1, am_row m.2.2.2.1 a g, m.2.2.2.2.1, m.2.2.2.2.2)
def am_rowJ (m : am_Mem) (a : Nat) (g : Nat → Int64) : am_Mem := (m.1, m.2.1, m.2.2.1, m.2.2.2.1, am_row m.2.2.2.2.1 a g, m.2.2.2.2.2)
/-- a new cell of the kind kd (an array: of len places), sz slots; its address is am_n m + 1 -/
def am_new (m : am_Mem) (kd len sz : Nat) : am_Mem :=
  ((m.1.1 + 1, m.1.2 + sz), am_up m.2.1 (m.1.1 + 1) kd, am_up m.2.2.1 (m.1.1 + 1) len, am_row m.2.2.2.1 (m.1.1 + 1) (fun _ => 0), am_row m.2.2.2.2.1 (m.1.1 + 1) (fun _ => 0), am_row m.2.2.2.2.2 (m.1.1 + 1) (fun _ => 0))
/-- the kinds of the fields: 0 int, 1 long, 2 reference; kinds of cells: 0 Command, 1 Log, 2 Read, 3 Replica, 4 Session, 5 State, 6 ReadSide, 7 ReadSideModel, 8 9 10 the exceptions, 11 int, 12 long, 13 boolean arrays, 14 .. arrays of Command, Log, Read, Replica, Session -/
def am_fk (ci : Nat) : List Nat := match ci with
  | 0 => [0, 0, 0, 0, 2]
  | 1 => [2, 0, 0]
  | 2 => [0, 0, 0, 0, 0, 1, 0, 0, 0, 1, 1]
  | 3 => [2, 2, 2, 2, 0, 0, 0]
  | 4 => [2, 2, 0, 0]
  | 5 => [2, 2, 2, 2, 2, 2, 2]
  | 6 => [2, 2, 2, 2, 2, 0, 0, 0, 0, 0]
  | 7 => [0, 0, 0, 0, 2, 2, 2, 2, 2, 2, 2, 2, 2, 2, 2, 2, 2, 2, 2, 2, 2, 2, 2, 2, 2, 2, 0, 2, 2, 2, 2, 2, 2, 2, 2, 2, 2, 2, 2]
  | _ => []
def am_rv (base : Nat) (x : Nat) : Value := match x with
  | 0 => .null
  | x + 1 => .ref (base + x)
def am_ro (base : Nat) (x : Nat) : Option Nat := match x with
  | 0 => none
  | x + 1 => some (base + x)
theorem am_ro_rv (base x : Nat) : va_rf (am_ro base x) = am_rv base x := by cases x <;> rfl
def am_fv (base : Nat) (m : am_Mem) (a kd j : Nat) : Value := match kd with
  | 0 => .int (am_I m a j)
  | 1 => .long (am_J m a j)
  | _ => am_rv base (am_R m a j)
def am_fl (base : Nat) (m : am_Mem) (a : Nat) : List Nat → Nat → List Value
  | [], _ => []
  | kd :: r, j => am_fv base m a kd j :: am_fl base m a r (j + 1)
def am_ac (base : Nat) (m : am_Mem) (a : Nat) : (Nat → Int32) ⊕ (Nat → Int64) ⊕ (Nat → UInt32) ⊕ (Nat → UInt64) ⊕ (Nat → Option Nat) :=
  if am_K m a = 12 then .inr (.inl (am_J m a)) else if am_K m a < 14 then .inl (am_I m a) else .inr (.inr (.inr (.inr (fun j => am_ro base (am_R m a j)))))
def am_cell (base : Nat) (cy : Nat → ClassId) (m : am_Mem) (a : Nat) : va_E :=
  if am_K m a < 11 then .inr (am_K m a, am_fl base m a (am_fk (am_K m a)) 0) else .inl (cy (am_K m a), am_L m a, am_ac base m a)
def am_ws (base : Nat) (cy : Nat → ClassId) (m : am_Mem) : va_W := (List.range (am_n m)).map (fun i => (base + i, am_cell base cy m (i + 1)))
def am_TE : u_T := fun _ => ("", "", "", false)
def am_cl : List vw_C := vwCl ++ [("java/lang/IndexOutOfBoundsException", am_TE, 0), ("java/lang/IllegalArgumentException", am_TE, 0), ("java/lang/IllegalStateException", am_TE, 0)]
def am_an (j : Nat) : FieldType := match j with
  | 0 => .int
  | 1 => .long
  | 2 => .boolean
  | 3 => .object "ReadSide$Command"
  | 4 => .object "ReadSide$Log"
  | 5 => .object "ReadSide$Read"
  | 6 => .object "ReadSide$Replica"
  | _ => .object "ReadSide$Session"
def am_tys (cy : Nat → ClassId) : List (ClassId × FieldType) := (List.range 8).map (fun j => (cy (11 + j), am_an j))
/-- values: references are relative (0 is null); .retAddr 0 is the law's script, another .retAddr is unknown -/
def am_sh (base b : Nat) (v : Value) : Value := match v with
  | .ref x => am_rv base x
  | .retAddr _ => .ref b
  | v => v
def am_kn (v : Value) : Bool := match v with
  | .retAddr (_ + 1) => false
  | _ => true
def am_ls (base b : Nat) (ls : List Value) (la : Array Slot) (nL : Nat) : Prop :=
  la.size = nL ∧ lv_wf la ∧ ∀ (i : Nat) (v : Value), ls[i]? = some v → am_kn v = true → la[i]? = some (.val (am_sh base b v))
abbrev am_Out : Type := Option Value ⊕ Nat
def am_CM : Nat := 601024
def am_SM : Nat := 7293000
/-- kinds outside the cells that there are -/
def am_Ok (m : am_Mem) : Prop := ∀ a, (a = 0 ∨ am_n m < a) → am_K m a = 99
def am_Rel (base : Nat) (D : va_G) (cy : Nat → ClassId) (m : am_Mem) (H : Heap) : Prop := va_P D am_cl (am_ws base cy m) H ∧ H.size = base + am_n m ∧ am_Ok m
def am_xk (w : Cond) : Bool := match w with
  | .methodLinkNest .. => true
  | .castable .. => true
  | .declares _ => true
  | .arrayOver (.object _) => true
  | _ => false
def am_ncs : List (String × String) := [("java/lang/IllegalArgumentException", "java/lang/IndexOutOfBoundsException"), ("java/lang/IllegalStateException", "java/lang/IndexOutOfBoundsException"), ("java/lang/IllegalStateException", "java/lang/IllegalArgumentException")]
/-- what holds at the start of every method's frame -/
def am_F (base b : Nat) (sc : Nat × (Nat → Int32)) (D : va_G) (cy : Nat → ClassId) (s : State) : Prop :=
  (∀ w ∈ lw_tbl, goodWord w = true → ∀ a, w.before a s = true) ∧ (∀ w ∈ lw_tbl, am_xk w = true → w.before #[] s = true) ∧ (∀ own k tx, Cond.stringRef own k tx ∈ lw_tbl → ∃ sa, vk_R own k tx sa s) ∧ (∀ q ∈ am_ncs, va_Nc q.1 q.2 s) ∧
  va_K D am_cl (am_tys cy) s ∧ va_X b sc.1 sc.2 s s.heap ∧ b < base ∧ base ≤ s.heap.size ∧
  vx_Zq Bundle.tN "UNASSIGNED_STACK" Bundle.steD (fun q => base ≤ q) s s.heap ∧ vx_Zq Bundle.tN "SUPPRESSED_SENTINEL" Bundle.listD (fun q => base ≤ q) s s.heap
/-- the frame's own method is k -/
def am_Fr (k : Nat) (s : State) (mid : MethodId) (meth : Method) (c : Code) : Prop :=
  c.code = am_b k ∧ c.maxLocals = am_ml k ∧ meth.sig.returnType = am_rt k ∧ meth.locks = false ∧ s.vm.findClass (am_y k).cls = some mid.cls ∧ meth.name = (am_y k).name ∧
  c.exceptionTable.toList.map (fun h => (h.startPc, h.endPc, h.handlerPc, h.catchType)) = am_hs k
def am_Rm (R : Room) (m : am_Mem) (cells slots : Nat) : Prop := am_n m ≤ am_CM ∧ am_u m ≤ am_SM ∧ cells + (am_CM - am_n m) ≤ R.cells ∧ slots + (am_SM - am_u m) ≤ R.slots
def am_Ctx (sc : Nat × (Nat → Int32)) (k : Nat) (m : am_Mem) (p : Program) (l : Launch) (base b : Nat) (D : va_G) (cy : Nat → ClassId) (R : Room) (s : State) (mid : MethodId) (meth : Method) (c : Code) (H : Heap) (locs : List Loc) (cells slots : Nat) : Prop :=
  p.tables.exec = Jvm.exec ∧ l.stackTraces = false ∧ am_F base b sc D cy s ∧ am_Fr k s mid meth c ∧ (am_fr k ≤ R.frames ∧ am_lo k ≤ R.locals) ∧ am_Rm R m cells slots ∧ am_Rel base D cy m H ∧ va_S (fun q => base ≤ q) s.heap H locs ∧ s.heap.size + cells = base + am_n m
def am_oo (base b : Nat) (out : am_Out) (o : Outcome) : Prop := match out with
  | .inl v => o = .returned (v.map (am_sh base b))
  | .inr a => ∃ x, a = x + 1 ∧ o = .threw (base + x)
def am_End (base b : Nat) (D : va_G) (cy : Nat → ClassId) (R : Room) (s : State) (below : List Frame) (Q : am_Out → am_Mem → Prop) (t : State) : Prop :=
  ∃ (o : Outcome) (out : am_Out) (m' : am_Mem) (L : List Loc) (k n : Nat), t.status = .running ∧ Ended t below o ∧ Q out m' ∧ am_oo base b out o ∧ am_Rel base D cy m' t.heap ∧ am_Rm R m' k n ∧
    s.WarmedH t.vm ∧ s.sameButNew ({ t with vm := s.vm } : State) L k n ∧ va_S (fun q => base ≤ q) s.heap t.heap L ∧ s.heap.size + k = base + am_n m'
/-- THE JUDGEMENT: method k at pc with these locals, this stack, this memory comes to its end, with Q of the outcome and the memory there; in every machine that holds them -/
def am_W (sc : Nat × (Nat → Int32)) (k pc : Nat) (ls st : List Value) (m : am_Mem) (Q : am_Out → am_Mem → Prop) : Prop :=
  ∀ (p : Program) (l : Launch) (e : Env) (base b : Nat) (D : va_G) (cy : Nat → ClassId) (R : Room) (s : State) (mid : MethodId) (args : Array Value) (below : List Frame) (meth : Method) (c : Code) (H : Heap) (locs : List Loc) (cells slots : Nat) (la : Array Slot),
    am_Ctx sc k m p l base b D cy R s mid meth c H locs cells slots → am_ls base b ls la (am_ml k) →
    W p l e R s mid args below meth c H locs cells slots (am_End base b D cy R s below Q) (F0 mid pc la (st.map (am_sh base b)))
/-- the instruction at pc of method k, and where the next one stands -/
def am_at (k pc : Nat) (i : Instr) (n q : Nat) : Prop := decode (am_b k) pc = .ok (i, n) ∧ pc + n = q
theorem am_W.mono {sc : Nat × (Nat → Int32)} {k pc : Nat} {ls st : List Value} {m : am_Mem} {Q Q' : am_Out → am_Mem → Prop} (h : am_W sc k pc ls st m Q) (hq : ∀ o m', Q o m' → Q' o m') : am_W sc k pc ls st m Q' := by
  intro p l e base b D cy R s mid args below meth c H locs cells slots la C hla T hT X
  obtain ⟨t, a, o, out, m', L, k', n', h1, h2, h3, h4⟩ := h p l e base b D cy R s mid args below meth c H locs cells slots la C hla T hT X
  exact ⟨t, a, o, out, m', L, k', n', h1, h2, hq _ _ h3, h4⟩
