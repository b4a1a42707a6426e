theorem am_C.x {sc : Nat × (Nat → Int32)} {k : Nat} {m : am_Mem} {p : Program} {l : Launch} {base b : Nat} {D : va_G} {cy : Nat → ClassId} {R : Room} {s : State} {mid : MethodId} {meth : Method} {c : Code} {H : Heap} {locs : List Loc} {cells slots : Nat} (C : am_Ctx sc k m p l base b D cy R s mid meth c H locs cells slots) : p.tables.exec = Jvm.exec := C.1
theorem am_C.b {sc : Nat × (Nat → Int32)} {k : Nat} {m : am_Mem} {p : Program} {l : Launch} {base b : Nat} {D : va_G} {cy : Nat → ClassId} {R : Room} {s : State} {mid : MethodId} {meth : Method} {c : Code} {H : Heap} {locs : List Loc} {cells slots : Nat} (C : am_Ctx sc k m p l base b D cy R s mid meth c H locs cells slots) : c.code = am_b k := C.2.2.2.1.1
theorem am_C.own {sc : Nat × (Nat → Int32)} {k : Nat} {m : am_Mem} {p : Program} {l : Launch} {base b : Nat} {D : va_G} {cy : Nat → ClassId} {R : Room} {s : State} {mid : MethodId} {meth : Method} {c : Code} {H : Heap} {locs : List Loc} {cells slots : Nat} (C : am_Ctx sc k m p l base b D cy R s mid meth c H locs cells slots) : s.vm.findClass (am_y k).cls = some mid.cls := C.2.2.2.1.2.2.2.2.1
theorem am_C.w {sc : Nat × (Nat → Int32)} {k : Nat} {m : am_Mem} {p : Program} {l : Launch} {base b : Nat} {D : va_G} {cy : Nat → ClassId} {R : Room} {s : State} {mid : MethodId} {meth : Method} {c : Code} {H : Heap} {locs : List Loc} {cells slots : Nat} (C : am_Ctx sc k m p l base b D cy R s mid meth c H locs cells slots) {w : Cond} (h : w ∈ lw_tbl) (hg : goodWord w = true) {args : Array Value} : w.before args s = true := C.2.2.1.1 w h hg args
theorem am_iadd {sc : Nat × (Nat → Int32)} {k pc q : Nat} {ls st : List Value} {m : am_Mem} {Q : am_Out → am_Mem → Prop} {x y : Int32}  (hd : am_at k pc .iadd 1 q) (h : am_W sc k q ls (.int (x + y) :: st) m Q) : am_W sc k pc ls (.int y :: .int x :: st) m Q := by
  obtain ⟨hd, rfl⟩ := hd
  intro p l e base b D cy R s mid args below meth c H locs cells slots la C hla
  exact lv_iadd (rest := st.map (am_sh base b)) C.1 (am_C.b C) hd (h p l e base b D cy R s mid args below meth c H locs cells slots la C hla)
theorem am_isub {sc : Nat × (Nat → Int32)} {k pc q : Nat} {ls st : List Value} {m : am_Mem} {Q : am_Out → am_Mem → Prop} {x y : Int32}  (hd : am_at k pc .isub 1 q) (h : am_W sc k q ls (.int (x - y) :: st) m Q) : am_W sc k pc ls (.int y :: .int x :: st) m Q := by
  obtain ⟨hd, rfl⟩ := hd
  intro p l e base b D cy R s mid args below meth c H locs cells slots la C hla
  exact lv_isub (rest := st.map (am_sh base b)) C.1 (am_C.b C) hd (h p l e base b D cy R s mid args below meth c H locs cells slots la C hla)
theorem am_imul {sc : Nat × (Nat → Int32)} {k pc q : Nat} {ls st : List Value} {m : am_Mem} {Q : am_Out → am_Mem → Prop} {x y : Int32}  (hd : am_at k pc .imul 1 q) (h : am_W sc k q ls (.int (x * y) :: st) m Q) : am_W sc k pc ls (.int y :: .int x :: st) m Q := by
  obtain ⟨hd, rfl⟩ := hd
  intro p l e base b D cy R s mid args below meth c H locs cells slots la C hla
  exact lv_imul (rest := st.map (am_sh base b)) C.1 (am_C.b C) hd (h p l e base b D cy R s mid args below meth c H locs cells slots la C hla)
theorem am_iand {sc : Nat × (Nat → Int32)} {k pc q : Nat} {ls st : List Value} {m : am_Mem} {Q : am_Out → am_Mem → Prop} {x y : Int32}  (hd : am_at k pc .iand 1 q) (h : am_W sc k q ls (.int (x &&& y) :: st) m Q) : am_W sc k pc ls (.int y :: .int x :: st) m Q := by
  obtain ⟨hd, rfl⟩ := hd
  intro p l e base b D cy R s mid args below meth c H locs cells slots la C hla
  exact lv_iand (rest := st.map (am_sh base b)) C.1 (am_C.b C) hd (h p l e base b D cy R s mid args below meth c H locs cells slots la C hla)
theorem am_irem {sc : Nat × (Nat → Int32)} {k pc q : Nat} {ls st : List Value} {m : am_Mem} {Q : am_Out → am_Mem → Prop} {x y : Int32} (hne : ¬ y = 0) (hd : am_at k pc .irem 1 q) (h : am_W sc k q ls (.int (x - x / y * y) :: st) m Q) : am_W sc k pc ls (.int y :: .int x :: st) m Q := by
  obtain ⟨hd, rfl⟩ := hd
  intro p l e base b D cy R s mid args below meth c H locs cells slots la C hla
  exact lv_irem (rest := st.map (am_sh base b)) C.1 (am_C.b C) hd hne (h p l e base b D cy R s mid args below meth c H locs cells slots la C hla)
theorem am_ladd {sc : Nat × (Nat → Int32)} {k pc q : Nat} {ls st : List Value} {m : am_Mem} {Q : am_Out → am_Mem → Prop} {x y : Int64}  (hd : am_at k pc .ladd 1 q) (h : am_W sc k q ls (.long (x + y) :: st) m Q) : am_W sc k pc ls (.long y :: .long x :: st) m Q := by
  obtain ⟨hd, rfl⟩ := hd
  intro p l e base b D cy R s mid args below meth c H locs cells slots la C hla
  exact lv_ladd (rest := st.map (am_sh base b)) C.1 (am_C.b C) hd (h p l e base b D cy R s mid args below meth c H locs cells slots la C hla)
theorem am_lmul {sc : Nat × (Nat → Int32)} {k pc q : Nat} {ls st : List Value} {m : am_Mem} {Q : am_Out → am_Mem → Prop} {x y : Int64}  (hd : am_at k pc .lmul 1 q) (h : am_W sc k q ls (.long (x * y) :: st) m Q) : am_W sc k pc ls (.long y :: .long x :: st) m Q := by
  obtain ⟨hd, rfl⟩ := hd
  intro p l e base b D cy R s mid args below meth c H locs cells slots la C hla
  exact lv_lmul (rest := st.map (am_sh base b)) C.1 (am_C.b C) hd (h p l e base b D cy R s mid args below meth c H locs cells slots la C hla)
theorem am_land {sc : Nat × (Nat → Int32)} {k pc q : Nat} {ls st : List Value} {m : am_Mem} {Q : am_Out → am_Mem → Prop} {x y : Int64}  (hd : am_at k pc .land 1 q) (h : am_W sc k q ls (.long (x &&& y) :: st) m Q) : am_W sc k pc ls (.long y :: .long x :: st) m Q := by
  obtain ⟨hd, rfl⟩ := hd
  intro p l e base b D cy R s mid args below meth c H locs cells slots la C hla
  exact lv_land (rest := st.map (am_sh base b)) C.1 (am_C.b C) hd (h p l e base b D cy R s mid args below meth c H locs cells slots la C hla)
theorem am_lor {sc : Nat × (Nat → Int32)} {k pc q : Nat} {ls st : List Value} {m : am_Mem} {Q : am_Out → am_Mem → Prop} {x y : Int64}  (hd : am_at k pc .lor 1 q) (h : am_W sc k q ls (.long (x ||| y) :: st) m Q) : am_W sc k pc ls (.long y :: .long x :: st) m Q := by
  obtain ⟨hd, rfl⟩ := hd
  intro p l e base b D cy R s mid args below meth c H locs cells slots la C hla
  exact lv_lor (rest := st.map (am_sh base b)) C.1 (am_C.b C) hd (h p l e base b D cy R s mid args below meth c H locs cells slots la C hla)
theorem am_lushr {sc : Nat × (Nat → Int32)} {k pc q : Nat} {ls st : List Value} {m : am_Mem} {Q : am_Out → am_Mem → Prop} {x : Int64} {y : Int32}  (hd : am_at k pc .lushr 1 q) (h : am_W sc k q ls (.long ((x.toUInt64 >>> (y.toInt64.toUInt64 &&& Int64.toUInt64 63)).toInt64) :: st) m Q) : am_W sc k pc ls (.int y :: .long x :: st) m Q := by
  obtain ⟨hd, rfl⟩ := hd
  intro p l e base b D cy R s mid args below meth c H locs cells slots la C hla
  exact lv_lushr (rest := st.map (am_sh base b)) C.1 (am_C.b C) hd rfl (h p l e base b D cy R s mid args below meth c H locs cells slots la C hla)
theorem am_lshl {sc : Nat × (Nat → Int32)} {k pc q : Nat} {ls st : List Value} {m : am_Mem} {Q : am_Out → am_Mem → Prop} {x : Int64} {y : Int32}  (hd : am_at k pc .lshl 1 q) (h : am_W sc k q ls (.long (x <<< (y.toInt64 &&& 63)) :: st) m Q) : am_W sc k pc ls (.int y :: .long x :: st) m Q := by
  obtain ⟨hd, rfl⟩ := hd
  intro p l e base b D cy R s mid args below meth c H locs cells slots la C hla
  exact lv_lshl (rest := st.map (am_sh base b)) C.1 (am_C.b C) hd rfl (h p l e base b D cy R s mid args below meth c H locs cells slots la C hla)
theorem am_lshr {sc : Nat × (Nat → Int32)} {k pc q : Nat} {ls st : List Value} {m : am_Mem} {Q : am_Out → am_Mem → Prop} {x : Int64} {y : Int32}  (hd : am_at k pc .lshr 1 q) (h : am_W sc k q ls (.long (x >>> (y.toInt64 &&& 63)) :: st) m Q) : am_W sc k pc ls (.int y :: .long x :: st) m Q := by
  obtain ⟨hd, rfl⟩ := hd
  intro p l e base b D cy R s mid args below meth c H locs cells slots la C hla
  exact lv_lshr (rest := st.map (am_sh base b)) C.1 (am_C.b C) hd rfl (h p l e base b D cy R s mid args below meth c H locs cells slots la C hla)
theorem am_lcmp {sc : Nat × (Nat → Int32)} {k pc q : Nat} {ls st : List Value} {m : am_Mem} {Q : am_Out → am_Mem → Prop} {x y : Int64}  (hd : am_at k pc .lcmp 1 q) (h : am_W sc k q ls (.int (lg_cmp x y) :: st) m Q) : am_W sc k pc ls (.long y :: .long x :: st) m Q := by
  obtain ⟨hd, rfl⟩ := hd
  intro p l e base b D cy R s mid args below meth c H locs cells slots la C hla
  exact W.lcmp (rest := st.map (am_sh base b)) C.1 (am_C.b C) hd (h p l e base b D cy R s mid args below meth c H locs cells slots la C hla)
theorem am_i2l {sc : Nat × (Nat → Int32)} {k pc q : Nat} {ls st : List Value} {m : am_Mem} {Q : am_Out → am_Mem → Prop} {x : Int32}  (hd : am_at k pc .i2l 1 q) (h : am_W sc k q ls (.long x.toInt64 :: st) m Q) : am_W sc k pc ls (.int x :: st) m Q := by
  obtain ⟨hd, rfl⟩ := hd
  intro p l e base b D cy R s mid args below meth c H locs cells slots la C hla
  exact lv_i2l (rest := st.map (am_sh base b)) C.1 (am_C.b C) hd rfl (h p l e base b D cy R s mid args below meth c H locs cells slots la C hla)
theorem am_l2i {sc : Nat × (Nat → Int32)} {k pc q : Nat} {ls st : List Value} {m : am_Mem} {Q : am_Out → am_Mem → Prop} {x : Int64}  (hd : am_at k pc .l2i 1 q) (h : am_W sc k q ls (.int x.toInt32 :: st) m Q) : am_W sc k pc ls (.long x :: st) m Q := by
  obtain ⟨hd, rfl⟩ := hd
  intro p l e base b D cy R s mid args below meth c H locs cells slots la C hla
  exact lv_l2i (rest := st.map (am_sh base b)) C.1 (am_C.b C) hd rfl (h p l e base b D cy R s mid args below meth c H locs cells slots la C hla)
theorem am_iconst {sc : Nat × (Nat → Int32)} {k pc q : Nat} {ls st : List Value} {m : am_Mem} {Q : am_Out → am_Mem → Prop} {i : Int} {v : Int32} (hv : Int32.ofInt i = v) (hd : am_at k pc (.iconst i) 1 q) (h : am_W sc k q ls (.int v :: st) m Q) : am_W sc k pc ls (st) m Q := by
  obtain ⟨hd, rfl⟩ := hd
  intro p l e base b D cy R s mid args below meth c H locs cells slots la C hla
  exact lv_iconst (rest := st.map (am_sh base b)) C.1 (am_C.b C) hd hv (h p l e base b D cy R s mid args below meth c H locs cells slots la C hla)
theorem am_bipush {sc : Nat × (Nat → Int32)} {k pc q : Nat} {ls st : List Value} {m : am_Mem} {Q : am_Out → am_Mem → Prop} {i : Int} {v : Int32} (hv : (Int8.ofInt i).toInt32 = v) (hd : am_at k pc (.bipush i) 2 q) (h : am_W sc k q ls (.int v :: st) m Q) : am_W sc k pc ls (st) m Q := by
  obtain ⟨hd, rfl⟩ := hd
  intro p l e base b D cy R s mid args below meth c H locs cells slots la C hla
  exact lv_bipush (rest := st.map (am_sh base b)) C.1 (am_C.b C) hd hv (h p l e base b D cy R s mid args below meth c H locs cells slots la C hla)
theorem am_sipush {sc : Nat × (Nat → Int32)} {k pc q : Nat} {ls st : List Value} {m : am_Mem} {Q : am_Out → am_Mem → Prop} {i : Int} {v : Int32} (hv : (Int16.ofInt i).toInt32 = v) (hd : am_at k pc (.sipush i) 3 q) (h : am_W sc k q ls (.int v :: st) m Q) : am_W sc k pc ls (st) m Q := by
  obtain ⟨hd, rfl⟩ := hd
  intro p l e base b D cy R s mid args below meth c H locs cells slots la C hla
  exact lv_sipush (rest := st.map (am_sh base b)) C.1 (am_C.b C) hd hv (h p l e base b D cy R s mid args below meth c H locs cells slots la C hla)
theorem am_lconst {sc : Nat × (Nat → Int32)} {k pc q : Nat} {ls st : List Value} {m : am_Mem} {Q : am_Out → am_Mem → Prop} {i : Fin 2} {v : Int64} (hv : Int64.ofNat (i : Nat) = v) (hd : am_at k pc (.lconst i) 1 q) (h : am_W sc k q ls (.long v :: st) m Q) : am_W sc k pc ls (st) m Q := by
  obtain ⟨hd, rfl⟩ := hd
  intro p l e base b D cy R s mid args below meth c H locs cells slots la C hla
  exact lv_lconst (rest := st.map (am_sh base b)) C.1 (am_C.b C) hd hv (h p l e base b D cy R s mid args below meth c H locs cells slots la C hla)
theorem am_ldc {sc : Nat × (Nat → Int32)} {k pc q : Nat} {ls st : List Value} {m : am_Mem} {Q : am_Out → am_Mem → Prop} {i : Nat} {v : Int32} (hw : Cond.constant (am_y k).cls i v ∈ lw_tbl) (hd : am_at k pc (.ldc i) 2 q) (h : am_W sc k q ls (.int v :: st) m Q) : am_W sc k pc ls (st) m Q := by
  obtain ⟨hd, rfl⟩ := hd
  intro p l e base b D cy R s mid args below meth c H locs cells slots la C hla
  exact lv_ldc (own := (am_y k).cls) (rest := st.map (am_sh base b)) C.1 (am_C.b C) (am_C.own C) (am_C.w C hw rfl) hd (h p l e base b D cy R s mid args below meth c H locs cells slots la C hla)
theorem am_ldc2 {sc : Nat × (Nat → Int32)} {k pc q : Nat} {ls st : List Value} {m : am_Mem} {Q : am_Out → am_Mem → Prop} {i : Nat} {v : Int64} (hw : Cond.constantLong (am_y k).cls i v ∈ lw_tbl) (hd : am_at k pc (.ldc2_w i) 3 q) (h : am_W sc k q ls (.long v :: st) m Q) : am_W sc k pc ls (st) m Q := by
  obtain ⟨hd, rfl⟩ := hd
  intro p l e base b D cy R s mid args below meth c H locs cells slots la C hla
  exact lv_ldc2 (own := (am_y k).cls) (rest := st.map (am_sh base b)) C.1 (am_C.b C) (am_C.own C) (am_C.w C hw rfl) hd (h p l e base b D cy R s mid args below meth c H locs cells slots la C hla)
theorem am_null {sc : Nat × (Nat → Int32)} {k pc q : Nat} {ls st : List Value} {m : am_Mem} {Q : am_Out → am_Mem → Prop}   (hd : am_at k pc .aconst_null 1 q) (h : am_W sc k q ls (.ref 0 :: st) m Q) : am_W sc k pc ls (st) m Q := by
  obtain ⟨hd, rfl⟩ := hd
  intro p l e base b D cy R s mid args below meth c H locs cells slots la C hla
  exact lv_null (rest := st.map (am_sh base b)) C.1 (am_C.b C) hd (h p l e base b D cy R s mid args below meth c H locs cells slots la C hla)
theorem am_sh_cat (base b : Nat) (v : Value) : (am_sh base b v).category = v.category := by
  cases v with
  | ref x => cases x <;> rfl
  | _ => rfl
theorem am_dup {sc : Nat × (Nat → Int32)} {k pc q : Nat} {ls st : List Value} {m : am_Mem} {Q : am_Out → am_Mem → Prop} {v : Value} (hd : am_at k pc .dup 1 q) (hv : v.category = 1) (h : am_W sc k q ls (v :: v :: st) m Q) : am_W sc k pc ls (v :: st) m Q := by
  obtain ⟨hd, rfl⟩ := hd
  intro p l e base b D cy R s mid args below meth c H locs cells slots la C hla
  exact lv_dup (rest := st.map (am_sh base b)) C.1 (am_C.b C) hd (by rw [am_sh_cat]; exact hv) (h p l e base b D cy R s mid args below meth c H locs cells slots la C hla)
theorem am_dup2 {sc : Nat × (Nat → Int32)} {k pc q : Nat} {ls st : List Value} {m : am_Mem} {Q : am_Out → am_Mem → Prop} {v w : Value} (hd : am_at k pc .dup2 1 q) (hv : v.category = 1) (hw : w.category = 1) (h : am_W sc k q ls (v :: w :: v :: w :: st) m Q) : am_W sc k pc ls (v :: w :: st) m Q := by
  obtain ⟨hd, rfl⟩ := hd
  intro p l e base b D cy R s mid args below meth c H locs cells slots la C hla
  exact lv_dup2_11 (rest := st.map (am_sh base b)) C.1 (am_C.b C) hd (by rw [am_sh_cat]; exact hv) (by rw [am_sh_cat]; exact hw) (h p l e base b D cy R s mid args below meth c H locs cells slots la C hla)
/-- a jump: where it goes, where the next one stands -/
def am_jp (k pc : Nat) (i : Instr) (off : Int) (tgt q : Nat) : Prop := decode (am_b k) pc = .ok (i, 3) ∧ (pc : Int) + off = (tgt : Int) ∧ pc + 3 = q
theorem am_goto {sc : Nat × (Nat → Int32)} {k pc q : Nat} {ls st : List Value} {m : am_Mem} {Q : am_Out → am_Mem → Prop} {off : Int} {tgt : Nat} (hd : am_jp k pc (.goto off) off tgt q) (h : am_W sc k tgt ls st m Q) : am_W sc k pc ls st m Q := by
  obtain ⟨hd, ht, rfl⟩ := hd
  intro p l e base b D cy R s mid args below meth c H locs cells slots la C hla
  exact lv_goto (rest := st.map (am_sh base b)) C.1 (am_C.b C) hd ht (h p l e base b D cy R s mid args below meth c H locs cells slots la C hla)
theorem am_if_eq {sc : Nat × (Nat → Int32)} {k pc q : Nat} {ls st : List Value} {m : am_Mem} {Q : am_Out → am_Mem → Prop} {x : Int32} {off : Int} {tgt : Nat} (hd : am_jp k pc (.ifCond .eq off) off tgt q) (ht : x = 0 → am_W sc k tgt ls st m Q) (hf : ¬ x = 0 → am_W sc k q ls st m Q) : am_W sc k pc ls (.int x :: st) m Q := by
  obtain ⟨hd, hg, rfl⟩ := hd
  intro p l e base b D cy R s mid args below meth c H locs cells slots la C hla
  exact lv_if_eq (rest := st.map (am_sh base b)) C.1 (am_C.b C) hd hg (fun hc => ht hc p l e base b D cy R s mid args below meth c H locs cells slots la C hla) (fun hc => hf hc p l e base b D cy R s mid args below meth c H locs cells slots la C hla)
theorem am_icmp_eq {sc : Nat × (Nat → Int32)} {k pc q : Nat} {ls st : List Value} {m : am_Mem} {Q : am_Out → am_Mem → Prop} {x y : Int32} {off : Int} {tgt : Nat} (hd : am_jp k pc (.if_icmp .eq off) off tgt q) (ht : x = y → am_W sc k tgt ls st m Q) (hf : ¬ x = y → am_W sc k q ls st m Q) : am_W sc k pc ls (.int y :: .int x :: st) m Q := by
  obtain ⟨hd, hg, rfl⟩ := hd
  intro p l e base b D cy R s mid args below meth c H locs cells slots la C hla
  exact lv_icmp_eq (rest := st.map (am_sh base b)) C.1 (am_C.b C) hd hg (fun hc => ht hc p l e base b D cy R s mid args below meth c H locs cells slots la C hla) (fun hc => hf hc p l e base b D cy R s mid args below meth c H locs cells slots la C hla)
theorem am_if_ne {sc : Nat × (Nat → Int32)} {k pc q : Nat} {ls st : List Value} {m : am_Mem} {Q : am_Out → am_Mem → Prop} {x : Int32} {off : Int} {tgt : Nat} (hd : am_jp k pc (.ifCond .ne off) off tgt q) (ht : ¬ x = 0 → am_W sc k tgt ls st m Q) (hf : x = 0 → am_W sc k q ls st m Q) : am_W sc k pc ls (.int x :: st) m Q := by
  obtain ⟨hd, hg, rfl⟩ := hd
  intro p l e base b D cy R s mid args below meth c H locs cells slots la C hla
  exact lv_if_ne (rest := st.map (am_sh base b)) C.1 (am_C.b C) hd hg (fun hc => ht hc p l e base b D cy R s mid args below meth c H locs cells slots la C hla) (fun hc => hf hc p l e base b D cy R s mid args below meth c H locs cells slots la C hla)
theorem am_icmp_ne {sc : Nat × (Nat → Int32)} {k pc q : Nat} {ls st : List Value} {m : am_Mem} {Q : am_Out → am_Mem → Prop} {x y : Int32} {off : Int} {tgt : Nat} (hd : am_jp k pc (.if_icmp .ne off) off tgt q) (ht : ¬ x = y → am_W sc k tgt ls st m Q) (hf : x = y → am_W sc k q ls st m Q) : am_W sc k pc ls (.int y :: .int x :: st) m Q := by
  obtain ⟨hd, hg, rfl⟩ := hd
  intro p l e base b D cy R s mid args below meth c H locs cells slots la C hla
  exact lv_icmp_ne (rest := st.map (am_sh base b)) C.1 (am_C.b C) hd hg (fun hc => ht hc p l e base b D cy R s mid args below meth c H locs cells slots la C hla) (fun hc => hf hc p l e base b D cy R s mid args below meth c H locs cells slots la C hla)
theorem am_if_lt {sc : Nat × (Nat → Int32)} {k pc q : Nat} {ls st : List Value} {m : am_Mem} {Q : am_Out → am_Mem → Prop} {x : Int32} {off : Int} {tgt : Nat} (hd : am_jp k pc (.ifCond .lt off) off tgt q) (ht : x < 0 → am_W sc k tgt ls st m Q) (hf : ¬ x < 0 → am_W sc k q ls st m Q) : am_W sc k pc ls (.int x :: st) m Q := by
  obtain ⟨hd, hg, rfl⟩ := hd
  intro p l e base b D cy R s mid args below meth c H locs cells slots la C hla
  exact lv_if_lt (rest := st.map (am_sh base b)) C.1 (am_C.b C) hd hg (fun hc => ht hc p l e base b D cy R s mid args below meth c H locs cells slots la C hla) (fun hc => hf hc p l e base b D cy R s mid args below meth c H locs cells slots la C hla)
theorem am_icmp_lt {sc : Nat × (Nat → Int32)} {k pc q : Nat} {ls st : List Value} {m : am_Mem} {Q : am_Out → am_Mem → Prop} {x y : Int32} {off : Int} {tgt : Nat} (hd : am_jp k pc (.if_icmp .lt off) off tgt q) (ht : x < y → am_W sc k tgt ls st m Q) (hf : ¬ x < y → am_W sc k q ls st m Q) : am_W sc k pc ls (.int y :: .int x :: st) m Q := by
  obtain ⟨hd, hg, rfl⟩ := hd
  intro p l e base b D cy R s mid args below meth c H locs cells slots la C hla
  exact lv_icmp_lt (rest := st.map (am_sh base b)) C.1 (am_C.b C) hd hg (fun hc => ht hc p l e base b D cy R s mid args below meth c H locs cells slots la C hla) (fun hc => hf hc p l e base b D cy R s mid args below meth c H locs cells slots la C hla)
theorem am_if_ge {sc : Nat × (Nat → Int32)} {k pc q : Nat} {ls st : List Value} {m : am_Mem} {Q : am_Out → am_Mem → Prop} {x : Int32} {off : Int} {tgt : Nat} (hd : am_jp k pc (.ifCond .ge off) off tgt q) (ht : 0 ≤ x → am_W sc k tgt ls st m Q) (hf : ¬ 0 ≤ x → am_W sc k q ls st m Q) : am_W sc k pc ls (.int x :: st) m Q := by
  obtain ⟨hd, hg, rfl⟩ := hd
  intro p l e base b D cy R s mid args below meth c H locs cells slots la C hla
  exact lv_if_ge (rest := st.map (am_sh base b)) C.1 (am_C.b C) hd hg (fun hc => ht hc p l e base b D cy R s mid args below meth c H locs cells slots la C hla) (fun hc => hf hc p l e base b D cy R s mid args below meth c H locs cells slots la C hla)
theorem am_icmp_ge {sc : Nat × (Nat → Int32)} {k pc q : Nat} {ls st : List Value} {m : am_Mem} {Q : am_Out → am_Mem → Prop} {x y : Int32} {off : Int} {tgt : Nat} (hd : am_jp k pc (.if_icmp .ge off) off tgt q) (ht : y ≤ x → am_W sc k tgt ls st m Q) (hf : ¬ y ≤ x → am_W sc k q ls st m Q) : am_W sc k pc ls (.int y :: .int x :: st) m Q := by
  obtain ⟨hd, hg, rfl⟩ := hd
  intro p l e base b D cy R s mid args below meth c H locs cells slots la C hla
  exact lv_icmp_ge (rest := st.map (am_sh base b)) C.1 (am_C.b C) hd hg (fun hc => ht hc p l e base b D cy R s mid args below meth c H locs cells slots la C hla) (fun hc => hf hc p l e base b D cy R s mid args below meth c H locs cells slots la C hla)
theorem am_if_gt {sc : Nat × (Nat → Int32)} {k pc q : Nat} {ls st : List Value} {m : am_Mem} {Q : am_Out → am_Mem → Prop} {x : Int32} {off : Int} {tgt : Nat} (hd : am_jp k pc (.ifCond .gt off) off tgt q) (ht : 0 < x → am_W sc k tgt ls st m Q) (hf : ¬ 0 < x → am_W sc k q ls st m Q) : am_W sc k pc ls (.int x :: st) m Q := by
  obtain ⟨hd, hg, rfl⟩ := hd
  intro p l e base b D cy R s mid args below meth c H locs cells slots la C hla
  exact lv_if_gt (rest := st.map (am_sh base b)) C.1 (am_C.b C) hd hg (fun hc => ht hc p l e base b D cy R s mid args below meth c H locs cells slots la C hla) (fun hc => hf hc p l e base b D cy R s mid args below meth c H locs cells slots la C hla)
theorem am_icmp_gt {sc : Nat × (Nat → Int32)} {k pc q : Nat} {ls st : List Value} {m : am_Mem} {Q : am_Out → am_Mem → Prop} {x y : Int32} {off : Int} {tgt : Nat} (hd : am_jp k pc (.if_icmp .gt off) off tgt q) (ht : y < x → am_W sc k tgt ls st m Q) (hf : ¬ y < x → am_W sc k q ls st m Q) : am_W sc k pc ls (.int y :: .int x :: st) m Q := by
  obtain ⟨hd, hg, rfl⟩ := hd
  intro p l e base b D cy R s mid args below meth c H locs cells slots la C hla
  exact lv_icmp_gt (rest := st.map (am_sh base b)) C.1 (am_C.b C) hd hg (fun hc => ht hc p l e base b D cy R s mid args below meth c H locs cells slots la C hla) (fun hc => hf hc p l e base b D cy R s mid args below meth c H locs cells slots la C hla)
theorem am_if_le {sc : Nat × (Nat → Int32)} {k pc q : Nat} {ls st : List Value} {m : am_Mem} {Q : am_Out → am_Mem → Prop} {x : Int32} {off : Int} {tgt : Nat} (hd : am_jp k pc (.ifCond .le off) off tgt q) (ht : x ≤ 0 → am_W sc k tgt ls st m Q) (hf : ¬ x ≤ 0 → am_W sc k q ls st m Q) : am_W sc k pc ls (.int x :: st) m Q := by
  obtain ⟨hd, hg, rfl⟩ := hd
  intro p l e base b D cy R s mid args below meth c H locs cells slots la C hla
  exact lv_if_le (rest := st.map (am_sh base b)) C.1 (am_C.b C) hd hg (fun hc => ht hc p l e base b D cy R s mid args below meth c H locs cells slots la C hla) (fun hc => hf hc p l e base b D cy R s mid args below meth c H locs cells slots la C hla)
theorem am_icmp_le {sc : Nat × (Nat → Int32)} {k pc q : Nat} {ls st : List Value} {m : am_Mem} {Q : am_Out → am_Mem → Prop} {x y : Int32} {off : Int} {tgt : Nat} (hd : am_jp k pc (.if_icmp .le off) off tgt q) (ht : x ≤ y → am_W sc k tgt ls st m Q) (hf : ¬ x ≤ y → am_W sc k q ls st m Q) : am_W sc k pc ls (.int y :: .int x :: st) m Q := by
  obtain ⟨hd, hg, rfl⟩ := hd
  intro p l e base b D cy R s mid args below meth c H locs cells slots la C hla
  exact lv_icmp_le (rest := st.map (am_sh base b)) C.1 (am_C.b C) hd hg (fun hc => ht hc p l e base b D cy R s mid args below meth c H locs cells slots la C hla) (fun hc => hf hc p l e base b D cy R s mid args below meth c H locs cells slots la C hla)
theorem am_ifnonnull {sc : Nat × (Nat → Int32)} {k pc q : Nat} {ls st : List Value} {m : am_Mem} {Q : am_Out → am_Mem → Prop} {x : Nat} {off : Int} {tgt : Nat} (hd : am_jp k pc (.ifnonnull off) off tgt q) (ht : ¬ x = 0 → am_W sc k tgt ls st m Q) (hf : x = 0 → am_W sc k q ls st m Q) : am_W sc k pc ls (.ref x :: st) m Q := by
  obtain ⟨hd, hg, rfl⟩ := hd
  intro p l e base b D cy R s mid args below meth c H locs cells slots la C hla
  cases x with
  | zero => exact lv_ifnonnullN (rest := st.map (am_sh base b)) C.1 (am_C.b C) hd (hf rfl p l e base b D cy R s mid args below meth c H locs cells slots la C hla)
  | succ x => exact lv_ifnonnull (rest := st.map (am_sh base b)) C.1 (am_C.b C) hd hg (ht (Nat.succ_ne_zero x) p l e base b D cy R s mid args below meth c H locs cells slots la C hla)
theorem am_tIn {sc : Nat × (Nat → Int32)} {k pc q : Nat} {ls st : List Value} {m : am_Mem} {Q : am_Out → am_Mem → Prop} {dflt lo hi : Int} {offs : Array Int} {len : Nat} {x : Int32} {off : Int} (tgt : Nat) (hd : decode (am_b k) pc = .ok (.tableswitch dflt lo hi offs, len)) (h1 : ¬ x.toInt < lo) (h2 : ¬ hi < x.toInt) (ho : offs[(x.toInt - lo).toNat]? = some off) (ht : (pc : Int) + off = (tgt : Int)) (h : am_W sc k tgt ls st m Q) : am_W sc k pc ls (.int x :: st) m Q := by
  intro p l e base b D cy R s mid args below meth c H locs cells slots la C hla
  exact lv_tableIn (rest := st.map (am_sh base b)) C.1 (am_C.b C) hd h1 h2 ho ht (h p l e base b D cy R s mid args below meth c H locs cells slots la C hla)
theorem am_tOut {sc : Nat × (Nat → Int32)} {k pc q : Nat} {ls st : List Value} {m : am_Mem} {Q : am_Out → am_Mem → Prop} {dflt lo hi : Int} {offs : Array Int} {len : Nat} {x : Int32} (tgt : Nat) (hd : decode (am_b k) pc = .ok (.tableswitch dflt lo hi offs, len)) (ho : x.toInt < lo ∨ hi < x.toInt) (ht : (pc : Int) + dflt = (tgt : Int)) (h : am_W sc k tgt ls st m Q) : am_W sc k pc ls (.int x :: st) m Q := by
  intro p l e base b D cy R s mid args below meth c H locs cells slots la C hla
  exact lv_tableOut (rest := st.map (am_sh base b)) C.1 (am_C.b C) hd ho ht (h p l e base b D cy R s mid args below meth c H locs cells slots la C hla)
theorem am_iload {sc : Nat × (Nat → Int32)} {k pc q : Nat} {ls st : List Value} {m : am_Mem} {Q : am_Out → am_Mem → Prop} {i : Nat} {x : Int32} (hd : am_at k pc (.iload i) 2 q) (hl : ls[i]? = some (.int x)) (h : am_W sc k q ls (.int x :: st) m Q) : am_W sc k pc ls st m Q := by
  obtain ⟨hd, rfl⟩ := hd
  intro p l e base b D cy R s mid args below meth c H locs cells slots la C hla
  exact lv_iload (rest := st.map (am_sh base b)) C.1 (am_C.b C) hd (hla.2.2 i _ hl rfl) (h p l e base b D cy R s mid args below meth c H locs cells slots la C hla)
theorem am_iload_n {sc : Nat × (Nat → Int32)} {k pc q : Nat} {ls st : List Value} {m : am_Mem} {Q : am_Out → am_Mem → Prop} {i : Fin 4} {j : Nat} {x : Int32} (hd : am_at k pc (.iload_n i) 1 q) (hj : (i : Nat) = j) (hl : ls[j]? = some (.int x)) (h : am_W sc k q ls (.int x :: st) m Q) : am_W sc k pc ls st m Q := by
  obtain ⟨hd, rfl⟩ := hd
  intro p l e base b D cy R s mid args below meth c H locs cells slots la C hla
  exact lv_iload_n (rest := st.map (am_sh base b)) C.1 (am_C.b C) hd hj (hla.2.2 j _ hl rfl) (h p l e base b D cy R s mid args below meth c H locs cells slots la C hla)
theorem am_lload {sc : Nat × (Nat → Int32)} {k pc q : Nat} {ls st : List Value} {m : am_Mem} {Q : am_Out → am_Mem → Prop} {i : Nat} {x : Int64} (hd : am_at k pc (.lload i) 2 q) (hl : ls[i]? = some (.long x)) (h : am_W sc k q ls (.long x :: st) m Q) : am_W sc k pc ls st m Q := by
  obtain ⟨hd, rfl⟩ := hd
  intro p l e base b D cy R s mid args below meth c H locs cells slots la C hla
  exact lv_lload (rest := st.map (am_sh base b)) C.1 (am_C.b C) hd (hla.2.2 i _ hl rfl) (h p l e base b D cy R s mid args below meth c H locs cells slots la C hla)
theorem am_lload_n {sc : Nat × (Nat → Int32)} {k pc q : Nat} {ls st : List Value} {m : am_Mem} {Q : am_Out → am_Mem → Prop} {i : Fin 4} {j : Nat} {x : Int64} (hd : am_at k pc (.lload_n i) 1 q) (hj : (i : Nat) = j) (hl : ls[j]? = some (.long x)) (h : am_W sc k q ls (.long x :: st) m Q) : am_W sc k pc ls st m Q := by
  obtain ⟨hd, rfl⟩ := hd
  intro p l e base b D cy R s mid args below meth c H locs cells slots la C hla
  exact lv_lload_n (rest := st.map (am_sh base b)) C.1 (am_C.b C) hd hj (hla.2.2 j _ hl rfl) (h p l e base b D cy R s mid args below meth c H locs cells slots la C hla)
theorem am_aload {sc : Nat × (Nat → Int32)} {k pc q : Nat} {ls st : List Value} {m : am_Mem} {Q : am_Out → am_Mem → Prop} {i : Nat} {x : Nat} (hd : am_at k pc (.aload i) 2 q)  (hl : ls[i]? = some (.ref x)) (h : am_W sc k q ls (.ref x :: st) m Q) : am_W sc k pc ls st m Q := by
  obtain ⟨hd, rfl⟩ := hd
  intro p l e base b D cy R s mid args below meth c H locs cells slots la C hla
  cases x with
  | zero => exact lv_aloadN (rest := st.map (am_sh base b)) C.1 (am_C.b C) hd (hla.2.2 i _ hl rfl) (h p l e base b D cy R s mid args below meth c H locs cells slots la C hla)
  | succ x => exact lv_aload (rest := st.map (am_sh base b)) C.1 (am_C.b C) hd (hla.2.2 i _ hl rfl) (h p l e base b D cy R s mid args below meth c H locs cells slots la C hla)
theorem am_sload {sc : Nat × (Nat → Int32)} {k pc q : Nat} {ls st : List Value} {m : am_Mem} {Q : am_Out → am_Mem → Prop} {i : Nat} (hd : am_at k pc (.aload i) 2 q)  (hl : ls[i]? = some (.retAddr 0)) (h : am_W sc k q ls (.retAddr 0 :: st) m Q) : am_W sc k pc ls st m Q := by
  obtain ⟨hd, rfl⟩ := hd
  intro p l e base b D cy R s mid args below meth c H locs cells slots la C hla
  exact lv_aload (rest := st.map (am_sh base b)) C.1 (am_C.b C) hd (hla.2.2 i _ hl rfl) (h p l e base b D cy R s mid args below meth c H locs cells slots la C hla)
theorem am_aload_n {sc : Nat × (Nat → Int32)} {k pc q : Nat} {ls st : List Value} {m : am_Mem} {Q : am_Out → am_Mem → Prop} {i : Fin 4} {j : Nat} {x : Nat} (hd : am_at k pc (.aload_n i) 1 q) (hj : (i : Nat) = j) (hl : ls[j]? = some (.ref x)) (h : am_W sc k q ls (.ref x :: st) m Q) : am_W sc k pc ls st m Q := by
  obtain ⟨hd, rfl⟩ := hd
  intro p l e base b D cy R s mid args below meth c H locs cells slots la C hla
  cases x with
  | zero => exact lv_aload_nN (rest := st.map (am_sh base b)) C.1 (am_C.b C) hd hj (hla.2.2 j _ hl rfl) (h p l e base b D cy R s mid args below meth c H locs cells slots la C hla)
  | succ x => exact lv_aload_n (rest := st.map (am_sh base b)) C.1 (am_C.b C) hd hj (hla.2.2 j _ hl rfl) (h p l e base b D cy R s mid args below meth c H locs cells slots la C hla)
theorem am_sload_n {sc : Nat × (Nat → Int32)} {k pc q : Nat} {ls st : List Value} {m : am_Mem} {Q : am_Out → am_Mem → Prop} {i : Fin 4} {j : Nat} (hd : am_at k pc (.aload_n i) 1 q) (hj : (i : Nat) = j) (hl : ls[j]? = some (.retAddr 0)) (h : am_W sc k q ls (.retAddr 0 :: st) m Q) : am_W sc k pc ls st m Q := by
  obtain ⟨hd, rfl⟩ := hd
  intro p l e base b D cy R s mid args below meth c H locs cells slots la C hla
  exact lv_aload_n (rest := st.map (am_sh base b)) C.1 (am_C.b C) hd hj (hla.2.2 j _ hl rfl) (h p l e base b D cy R s mid args below meth c H locs cells slots la C hla)
def am_ll (base b : Nat) (ls : List Value) : List (Nat × Value) := (List.range ls.length).filterMap (fun i => (ls[i]?).bind (fun v => if am_kn v = true then some (i, am_sh base b v) else none))
theorem am_ll_of {base b : Nat} {ls : List Value} {i : Nat} {v : Value} (h : ls[i]? = some v) (hk : am_kn v = true) : (i, am_sh base b v) ∈ am_ll base b ls := by
  refine List.mem_filterMap.mpr ⟨i, List.mem_range.mpr (List.getElem?_eq_some_iff.mp h).1, ?_⟩
  rw [h]
  show (if am_kn v = true then _ else _) = _
  rw [if_pos hk]
theorem am_ll_to {base b : Nat} {ls : List Value} {q : Nat × Value} (h : q ∈ am_ll base b ls) : ∃ v, ls[q.1]? = some v ∧ am_kn v = true ∧ q.2 = am_sh base b v := by
  obtain ⟨i, -, hi⟩ := List.mem_filterMap.mp h
  cases hv : ls[i]? with
  | none => rw [hv] at hi; cases hi
  | some v =>
    rw [hv] at hi
    by_cases hk : am_kn v = true
    · have h2 : (if am_kn v = true then some (i, am_sh base b v) else none) = some q := hi
      rw [if_pos hk] at h2
      cases h2
      exact ⟨v, hv, hk, rfl⟩
    · have h2 : (if am_kn v = true then some (i, am_sh base b v) else none) = some q := hi
      rw [if_neg hk] at h2
      cases h2
theorem am_ls.has {base b nL : Nat} {ls : List Value} {la : Array Slot} (h : am_ls base b ls la nL) : lv_has la nL (am_ll base b ls) :=
  ⟨h.1, h.2.1, fun q hq => by obtain ⟨v, h1, h2, h3⟩ := am_ll_to hq; rw [h3]; exact h.2.2 _ _ h1 h2⟩
/-- the place before i doesn't hold a wide value -/
def am_nw (ls : List Value) (i : Nat) : Bool := match i with
  | 0 => true
  | j + 1 => match ls[j]? with
    | some v => decide (v.category ≠ 2)
    | none => true
theorem am_nw_of {ls : List Value} {i j : Nat} {v : Value} (h : am_nw ls i = true) (hj : j + 1 = i) (hv : ls[j]? = some v) : v.category ≠ 2 := by
  subst hj
  simp only [am_nw, hv] at h
  exact of_decide_eq_true h
theorem am_ls_st1 {base b nL i : Nat} {ls : List Value} {la : Array Slot} {v : Value} (hw : am_nw ls i = true) (h : lv_has la nL ((i, am_sh base b v) :: (am_ll base b ls).filter (fun q => !(q.1 == i) && !(q.1 + 1 == i && q.2.category == 2)))) : am_ls base b (ls.set i v) la nL := by
  refine ⟨h.1, h.2.1, fun j w hj hk => ?_⟩
  by_cases hi : j = i
  · subst hi
    have h9 : (ls.set j v)[j]? = some v := by
      have hlt : j < (ls.set j v).length := (List.getElem?_eq_some_iff.mp hj).1
      rw [List.length_set] at hlt
      rw [List.getElem?_set_self hlt]
    rw [h9] at hj
    cases hj
    exact h.2.2 (j, am_sh base b v) List.mem_cons_self
  · rw [List.getElem?_set_ne (fun q => hi q.symm)] at hj
    refine h.2.2 (j, am_sh base b w) (List.mem_cons_of_mem _ (List.mem_filter.mpr ⟨am_ll_of hj hk, ?_⟩))
    have c1 : ¬ (j + 1 = i ∧ (am_sh base b w).category = 2) := fun q => am_nw_of hw q.1 hj (by rw [← am_sh_cat base b w]; exact q.2)
    simp only [Bool.and_eq_true, Bool.not_eq_true', beq_eq_false_iff_ne, ne_eq, Bool.and_eq_false_iff]
    refine ⟨hi, ?_⟩
    by_cases c2 : j + 1 = i
    · exact Or.inr (fun q => c1 ⟨c2, q⟩)
    · exact Or.inl c2
theorem am_ls_st2 {base b nL i : Nat} {ls : List Value} {la : Array Slot} {v : Value} (hw : am_nw ls i = true) (h : lv_has la nL ((i, am_sh base b v) :: (am_ll base b ls).filter (fun q => !(q.1 == i) && (!(q.1 == i + 1) && !(q.1 + 1 == i && q.2.category == 2))))) : am_ls base b ((ls.set i v).set (i + 1) (.retAddr 1)) la nL := by
  refine ⟨h.1, h.2.1, fun j w hj hk => ?_⟩
  by_cases hi1 : j = i + 1
  · subst hi1
    have hlt : i + 1 < ((ls.set i v).set (i + 1) (.retAddr 1)).length := (List.getElem?_eq_some_iff.mp hj).1
    rw [List.length_set] at hlt
    rw [List.getElem?_set_self hlt] at hj
    cases hj
    cases hk
  · rw [List.getElem?_set_ne (fun q => hi1 q.symm)] at hj
    by_cases hi : j = i
    · subst hi
      have hlt : j < (ls.set j v).length := (List.getElem?_eq_some_iff.mp hj).1
      rw [List.length_set] at hlt
      rw [List.getElem?_set_self hlt] at hj
      cases hj
      exact h.2.2 (j, am_sh base b v) List.mem_cons_self
    · rw [List.getElem?_set_ne (fun q => hi q.symm)] at hj
      refine h.2.2 (j, am_sh base b w) (List.mem_cons_of_mem _ (List.mem_filter.mpr ⟨am_ll_of hj hk, ?_⟩))
      have c1 : ¬ (j + 1 = i ∧ (am_sh base b w).category = 2) := fun q => am_nw_of hw q.1 hj (by rw [← am_sh_cat base b w]; exact q.2)
      simp only [Bool.and_eq_true, Bool.not_eq_true', beq_eq_false_iff_ne, ne_eq, Bool.and_eq_false_iff]
      refine ⟨hi, hi1, ?_⟩
      by_cases c2 : j + 1 = i
      · exact Or.inr (fun q => c1 ⟨c2, q⟩)
      · exact Or.inl c2
theorem am_istore {sc : Nat × (Nat → Int32)} {k pc q : Nat} {ls st : List Value} {m : am_Mem} {Q : am_Out → am_Mem → Prop} {i : Nat} {x : Int32} (hd : am_at k pc (.istore i) 2 q)  (hn : i < am_ml k) (hw : am_nw ls i = true) (h : am_W sc k q (ls.set i (.int x)) st m Q) : am_W sc k pc ls (.int x :: st) m Q := by
  obtain ⟨hd, rfl⟩ := hd
  intro p l e base b D cy R s mid args below meth c H locs cells slots la C hla
  exact lv_istore (rest := st.map (am_sh base b)) C.1 (am_C.b C) hd hla.has hn rfl (fun la2 hh => h p l e base b D cy R s mid args below meth c H locs cells slots la2 C (am_ls_st1 hw hh))
theorem am_lstore {sc : Nat × (Nat → Int32)} {k pc q : Nat} {ls st : List Value} {m : am_Mem} {Q : am_Out → am_Mem → Prop} {i : Nat} {x : Int64} (hd : am_at k pc (.lstore i) 2 q)  (hn : i + 1 < am_ml k) (hw : am_nw ls i = true) (h : am_W sc k q ((ls.set i (.long x)).set (i + 1) (.retAddr 1)) st m Q) : am_W sc k pc ls (.long x :: st) m Q := by
  obtain ⟨hd, rfl⟩ := hd
  intro p l e base b D cy R s mid args below meth c H locs cells slots la C hla
  exact lv_lstore (rest := st.map (am_sh base b)) C.1 (am_C.b C) hd hla.has hn rfl (fun la2 hh => h p l e base b D cy R s mid args below meth c H locs cells slots la2 C (am_ls_st2 hw hh))
theorem am_astore {sc : Nat × (Nat → Int32)} {k pc q : Nat} {ls st : List Value} {m : am_Mem} {Q : am_Out → am_Mem → Prop} {i : Nat} {x : Nat} (hd : am_at k pc (.astore i) 2 q)  (hn : i < am_ml k) (hw : am_nw ls i = true) (h : am_W sc k q (ls.set i (.ref x)) st m Q) : am_W sc k pc ls (.ref x :: st) m Q := by
  obtain ⟨hd, rfl⟩ := hd
  intro p l e base b D cy R s mid args below meth c H locs cells slots la C hla
  cases x with
  | zero => exact lv_astoreN (rest := st.map (am_sh base b)) C.1 (am_C.b C) hd hla.has hn rfl (fun la2 hh => h p l e base b D cy R s mid args below meth c H locs cells slots la2 C (am_ls_st1 hw hh))
  | succ x => exact lv_astore (rest := st.map (am_sh base b)) C.1 (am_C.b C) hd hla.has hn rfl (fun la2 hh => h p l e base b D cy R s mid args below meth c H locs cells slots la2 C (am_ls_st1 hw hh))
theorem am_istore_n {sc : Nat × (Nat → Int32)} {k pc q : Nat} {ls st : List Value} {m : am_Mem} {Q : am_Out → am_Mem → Prop} {i : Fin 4} {j : Nat} {x : Int32} (hd : am_at k pc (.istore_n i) 1 q) (hj : (i : Nat) = j) (hn : j < am_ml k) (hw : am_nw ls j = true) (h : am_W sc k q (ls.set j (.int x)) st m Q) : am_W sc k pc ls (.int x :: st) m Q := by
  obtain ⟨hd, rfl⟩ := hd
  intro p l e base b D cy R s mid args below meth c H locs cells slots la C hla
  exact lv_istore_n (rest := st.map (am_sh base b)) C.1 (am_C.b C) hd hj hla.has hn rfl (fun la2 hh => h p l e base b D cy R s mid args below meth c H locs cells slots la2 C (am_ls_st1 hw hh))
theorem am_lstore_n {sc : Nat × (Nat → Int32)} {k pc q : Nat} {ls st : List Value} {m : am_Mem} {Q : am_Out → am_Mem → Prop} {i : Fin 4} {j : Nat} {x : Int64} (hd : am_at k pc (.lstore_n i) 1 q) (hj : (i : Nat) = j) (hn : j + 1 < am_ml k) (hw : am_nw ls j = true) (h : am_W sc k q ((ls.set j (.long x)).set (j + 1) (.retAddr 1)) st m Q) : am_W sc k pc ls (.long x :: st) m Q := by
  obtain ⟨hd, rfl⟩ := hd
  intro p l e base b D cy R s mid args below meth c H locs cells slots la C hla
  exact lv_lstore_n (rest := st.map (am_sh base b)) C.1 (am_C.b C) hd hj hla.has hn rfl (fun la2 hh => h p l e base b D cy R s mid args below meth c H locs cells slots la2 C (am_ls_st2 hw hh))
theorem am_astore_n {sc : Nat × (Nat → Int32)} {k pc q : Nat} {ls st : List Value} {m : am_Mem} {Q : am_Out → am_Mem → Prop} {i : Fin 4} {j : Nat} {x : Nat} (hd : am_at k pc (.astore_n i) 1 q) (hj : (i : Nat) = j) (hn : j < am_ml k) (hw : am_nw ls j = true) (h : am_W sc k q (ls.set j (.ref x)) st m Q) : am_W sc k pc ls (.ref x :: st) m Q := by
  obtain ⟨hd, rfl⟩ := hd
  intro p l e base b D cy R s mid args below meth c H locs cells slots la C hla
  cases x with
  | zero => exact lv_astore_nN (rest := st.map (am_sh base b)) C.1 (am_C.b C) hd hj hla.has hn rfl (fun la2 hh => h p l e base b D cy R s mid args below meth c H locs cells slots la2 C (am_ls_st1 hw hh))
  | succ x => exact lv_astore_n (rest := st.map (am_sh base b)) C.1 (am_C.b C) hd hj hla.has hn rfl (fun la2 hh => h p l e base b D cy R s mid args below meth c H locs cells slots la2 C (am_ls_st1 hw hh))
theorem am_iinc {sc : Nat × (Nat → Int32)} {k pc q : Nat} {ls st : List Value} {m : am_Mem} {Q : am_Out → am_Mem → Prop} {i : Nat} {d : Int} {x v : Int32} (hd : am_at k pc (.iinc i d) 3 q) (hl : ls[i]? = some (.int x)) (hv : x + Int32.ofInt d = v) (hn : i < am_ml k) (hw : am_nw ls i = true) (h : am_W sc k q (ls.set i (.int v)) st m Q) : am_W sc k pc ls st m Q := by
  obtain ⟨hd, rfl⟩ := hd
  intro p l e base b D cy R s mid args below meth c H locs cells slots la C hla
  obtain ⟨j, hj⟩ := List.getElem?_of_mem (am_ll_of (base := base) (b := b) hl rfl)
  exact lv_iinc (rest := st.map (am_sh base b)) C.1 (am_C.b C) hd hla.has hj hv hn rfl (fun la2 hh => h p l e base b D cy R s mid args below meth c H locs cells slots la2 C (am_ls_st1 hw hh))
