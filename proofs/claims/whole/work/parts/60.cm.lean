/-! THE CLASS: its cells by tag and number; where each of its ints and longs stands in the tables X (of the reference) and E (its own) -/
abbrev cg_G : Type := (Nat → Nat × Nat) × (Nat → Nat → Nat)
def co (G : cg_G) (a : Nat) : Nat × Nat := G.1 a
def ca (G : cg_G) (t n : Nat) : Nat := G.2 t n
/-- there is such a cell -/
def cx (G : cg_G) (t n : Nat) : Prop := co G (ca G t n) = (t, n)
def cvI (t n j : Nat) : Option (Nat × Nat) := match t with
  | 1 => if n = 0 then (match j with | 5 => some (0, 26) | 6 => some (35, 0) | 7 => some (35, 1) | 8 => some (35, 2) | 9 => some (0, 3) | _ => none) else none
  | 2 => (match j with | 1 => some (1, n) | 2 => some (2, n) | _ => none)
  | 4 => (match j with | 4 => some (16, n) | 5 => some (17, n) | 6 => some (18, n) | _ => none)
  | 6 => if j < 30 then some (8, 30 * n + j) else none
  | 7 => if j < 30 then some (9, 30 * n + j) else none
  | 8 => if j < 30 then some (10, 30 * n + j) else none
  | 9 => if j < 30 then some (11, 30 * n + j) else none
  | 11 => if j < 10 then some (14, 10 * n + j) else none
  | 12 => if j < 300 then some (12, 300 * n + j) else none
  | 13 => if j < 3 then some (15, 3 * n + j) else none
  | 14 => (match j with | 2 => some (19, n) | 3 => some (20, n) | _ => none)
  | 15 => if j < 3 then some (21, 3 * n + j) else none
  | 16 => if j < 3 then some (22, 3 * n + j) else none
  | 17 => (match j with | 0 => some (24, n) | 1 => some (26, n) | 2 => some (36, n) | 3 => some (29, n) | 4 => some (30, n) | 6 => some (23, n) | 7 => some (31, n) | 8 => some (34, n) | _ => none)
  | 18 => (match j with | 0 => some (3, n) | 1 => some (4, n) | 2 => some (5, n) | 3 => some (6, n) | _ => none)
  | 19 => if j < 3 then some (7, 3 * n + j) else none
  | _ => none
def cvJ (t n j : Nat) : Option (Nat × Nat) := match t with
  | 10 => if j < 10 then some (13, 10 * n + j) else none
  | 17 => (match j with | 5 => some (36, n) | 9 => some (32, n) | 10 => some (33, n) | _ => none)
  | _ => none
def ciI (q : Nat × Nat) : Nat × Nat × Nat := match q.1 with
  | 0 => if q.2 = 26 then (1, 0, 5) else if q.2 = 3 then (1, 0, 9) else (0, 0, 0)
  | 1 => (2, q.2, 1)
  | 2 => (2, q.2, 2)
  | 3 => (18, q.2, 0)
  | 4 => (18, q.2, 1)
  | 5 => (18, q.2, 2)
  | 6 => (18, q.2, 3)
  | 7 => (19, q.2 / 3, q.2 % 3)
  | 8 => (6, q.2 / 30, q.2 % 30)
  | 9 => (7, q.2 / 30, q.2 % 30)
  | 10 => (8, q.2 / 30, q.2 % 30)
  | 11 => (9, q.2 / 30, q.2 % 30)
  | 12 => (12, q.2 / 300, q.2 % 300)
  | 14 => (11, q.2 / 10, q.2 % 10)
  | 15 => (13, q.2 / 3, q.2 % 3)
  | 16 => (4, q.2, 4)
  | 17 => (4, q.2, 5)
  | 18 => (4, q.2, 6)
  | 19 => (14, q.2, 2)
  | 20 => (14, q.2, 3)
  | 21 => (15, q.2 / 3, q.2 % 3)
  | 22 => (16, q.2 / 3, q.2 % 3)
  | 23 => (17, q.2, 6)
  | 24 => (17, q.2, 0)
  | 26 => (17, q.2, 1)
  | 29 => (17, q.2, 3)
  | 30 => (17, q.2, 4)
  | 31 => (17, q.2, 7)
  | 34 => (17, q.2, 8)
  | 35 => if q.2 = 0 then (1, 0, 6) else if q.2 = 1 then (1, 0, 7) else if q.2 = 2 then (1, 0, 8) else (0, 0, 0)
  | 36 => (17, q.2, 2)
  | _ => (0, 0, 0)
def ciJ (q : Nat × Nat) : Nat × Nat × Nat := match q.1 with
  | 13 => (10, q.2 / 10, q.2 % 10)
  | 32 => (17, q.2, 9)
  | 33 => (17, q.2, 10)
  | 36 => (17, q.2, 5)
  | _ => (0, 0, 0)
theorem cvI_inv {t n j : Nat} {q : Nat × Nat} (h : cvI t n j = some q) : ciI q = (t, n, j) := by
  unfold cvI at h
  split at h
  · split at h
    · rename_i hb
      subst hb
      split at h
      · obtain rfl := Option.some.inj h; rfl
      · obtain rfl := Option.some.inj h; rfl
      · obtain rfl := Option.some.inj h; rfl
      · obtain rfl := Option.some.inj h; rfl
      · obtain rfl := Option.some.inj h; rfl
      · cases h
    · cases h
  · split at h
    · obtain rfl := Option.some.inj h; rfl
    · obtain rfl := Option.some.inj h; rfl
    · cases h
  · split at h
    · obtain rfl := Option.some.inj h; rfl
    · obtain rfl := Option.some.inj h; rfl
    · obtain rfl := Option.some.inj h; rfl
    · cases h
  · split at h
    · rename_i hb
      obtain rfl := Option.some.inj h
      show (6, (30 * n + j) / 30, (30 * n + j) % 30) = _
      rw [show (30 * n + j) / 30 = n by omega, show (30 * n + j) % 30 = j by omega]
    · cases h
  · split at h
    · rename_i hb
      obtain rfl := Option.some.inj h
      show (7, (30 * n + j) / 30, (30 * n + j) % 30) = _
      rw [show (30 * n + j) / 30 = n by omega, show (30 * n + j) % 30 = j by omega]
    · cases h
  · split at h
    · rename_i hb
      obtain rfl := Option.some.inj h
      show (8, (30 * n + j) / 30, (30 * n + j) % 30) = _
      rw [show (30 * n + j) / 30 = n by omega, show (30 * n + j) % 30 = j by omega]
    · cases h
  · split at h
    · rename_i hb
      obtain rfl := Option.some.inj h
      show (9, (30 * n + j) / 30, (30 * n + j) % 30) = _
      rw [show (30 * n + j) / 30 = n by omega, show (30 * n + j) % 30 = j by omega]
    · cases h
  · split at h
    · rename_i hb
      obtain rfl := Option.some.inj h
      show (11, (10 * n + j) / 10, (10 * n + j) % 10) = _
      rw [show (10 * n + j) / 10 = n by omega, show (10 * n + j) % 10 = j by omega]
    · cases h
  · split at h
    · rename_i hb
      obtain rfl := Option.some.inj h
      show (12, (300 * n + j) / 300, (300 * n + j) % 300) = _
      rw [show (300 * n + j) / 300 = n by omega, show (300 * n + j) % 300 = j by omega]
    · cases h
  · split at h
    · rename_i hb
      obtain rfl := Option.some.inj h
      show (13, (3 * n + j) / 3, (3 * n + j) % 3) = _
      rw [show (3 * n + j) / 3 = n by omega, show (3 * n + j) % 3 = j by omega]
    · cases h
  · split at h
    · obtain rfl := Option.some.inj h; rfl
    · obtain rfl := Option.some.inj h; rfl
    · cases h
  · split at h
    · rename_i hb
      obtain rfl := Option.some.inj h
      show (15, (3 * n + j) / 3, (3 * n + j) % 3) = _
      rw [show (3 * n + j) / 3 = n by omega, show (3 * n + j) % 3 = j by omega]
    · cases h
  · split at h
    · rename_i hb
      obtain rfl := Option.some.inj h
      show (16, (3 * n + j) / 3, (3 * n + j) % 3) = _
      rw [show (3 * n + j) / 3 = n by omega, show (3 * n + j) % 3 = j by omega]
    · cases h
  · split at h
    · obtain rfl := Option.some.inj h; rfl
    · obtain rfl := Option.some.inj h; rfl
    · obtain rfl := Option.some.inj h; rfl
    · obtain rfl := Option.some.inj h; rfl
    · obtain rfl := Option.some.inj h; rfl
    · obtain rfl := Option.some.inj h; rfl
    · obtain rfl := Option.some.inj h; rfl
    · obtain rfl := Option.some.inj h; rfl
    · cases h
  · split at h
    · obtain rfl := Option.some.inj h; rfl
    · obtain rfl := Option.some.inj h; rfl
    · obtain rfl := Option.some.inj h; rfl
    · obtain rfl := Option.some.inj h; rfl
    · cases h
  · split at h
    · rename_i hb
      obtain rfl := Option.some.inj h
      show (19, (3 * n + j) / 3, (3 * n + j) % 3) = _
      rw [show (3 * n + j) / 3 = n by omega, show (3 * n + j) % 3 = j by omega]
    · cases h
  · cases h
theorem cvJ_inv {t n j : Nat} {q : Nat × Nat} (h : cvJ t n j = some q) : ciJ q = (t, n, j) := by
  unfold cvJ at h
  split at h
  · split at h
    · rename_i hb
      obtain rfl := Option.some.inj h
      show (10, (10 * n + j) / 10, (10 * n + j) % 10) = _
      rw [show (10 * n + j) / 10 = n by omega, show (10 * n + j) % 10 = j by omega]
    · cases h
  · split at h
    · obtain rfl := Option.some.inj h; rfl
    · obtain rfl := Option.some.inj h; rfl
    · obtain rfl := Option.some.inj h; rfl
    · cases h
  · cases h
def ckd (t : Nat) : Nat := match t with
  | 1 => 6
  | 2 => 1
  | 3 => 14
  | 4 => 3
  | 5 => 5
  | 6 => 11
  | 7 => 11
  | 8 => 11
  | 9 => 11
  | 10 => 12
  | 11 => 11
  | 12 => 11
  | 13 => 11
  | 14 => 4
  | 15 => 11
  | 16 => 11
  | 17 => 2
  | 18 => 0
  | 19 => 11
  | 20 => 15
  | 21 => 17
  | 22 => 18
  | 23 => 16
  | 24 => 16
  | _ => 99
def cln (P R t : Nat) : Nat := match t with
  | 3 => 400
  | 6 => 30
  | 7 => 30
  | 8 => 30
  | 9 => 30
  | 10 => 10
  | 11 => 10
  | 12 => 300
  | 13 => 3
  | 15 => 3
  | 16 => 3
  | 19 => 3
  | 20 => P
  | 21 => R
  | 22 => 8
  | 23 => 500
  | 24 => 40
  | _ => 0
def la (t : Nat) : Nat := match t with
  | 6 => 30
  | 7 => 30
  | 8 => 30
  | 9 => 30
  | 11 => 10
  | 12 => 300
  | 13 => 3
  | 15 => 3
  | 16 => 3
  | 19 => 3
  | _ => 0
def cva (t n j : Nat) : Nat × Nat := match t with
  | 6 => (8, 30 * n + j)
  | 7 => (9, 30 * n + j)
  | 8 => (10, 30 * n + j)
  | 9 => (11, 30 * n + j)
  | 11 => (14, 10 * n + j)
  | 12 => (12, 300 * n + j)
  | 13 => (15, 3 * n + j)
  | 15 => (21, 3 * n + j)
  | 16 => (22, 3 * n + j)
  | 19 => (7, 3 * n + j)
  | _ => (99, 0)
theorem cvI_a {t n j : Nat} (h : j < la t) : cvI t n j = some (cva t n j) := by
  unfold la at h
  split at h
  · exact if_pos h
  · exact if_pos h
  · exact if_pos h
  · exact if_pos h
  · exact if_pos h
  · exact if_pos h
  · exact if_pos h
  · exact if_pos h
  · exact if_pos h
  · exact if_pos h
  · omega
theorem la_cln {P R t j : Nat} (h : j < la t) : cln P R t = la t := by
  unfold la at h
  split at h
  · rfl
  · rfl
  · rfl
  · rfl
  · rfl
  · rfl
  · rfl
  · rfl
  · rfl
  · rfl
  · omega
def crf (P R t n j : Nat) : Option (Nat × Nat) := match t with
  | 1 => (match j with | 0 => some (20, 0) | 1 => some (21, 0) | 2 => some (22, 0) | 3 => some (23, 0) | 4 => some (24, 0) | _ => none)
  | 20 => if j < P then some (2, j) else none
  | 21 => if j < R then some (4, j) else none
  | 22 => if j < 8 then some (14, j) else none
  | 2 => if j = 0 then some (3, n) else none
  | 4 => (match j with | 0 => some (5, n) | 1 => some (5, 4 + n) | 2 => some (13, n) | 3 => some (13, 4 + n) | _ => none)
  | 5 => (match j with | 0 => some (6, n) | 1 => some (7, n) | 2 => some (8, n) | 3 => some (9, n) | 4 => some (10, n) | 5 => some (11, n) | 6 => some (12, n) | _ => none)
  | 14 => (match j with | 0 => some (15, n) | 1 => some (16, n) | _ => none)
  | 18 => if j = 4 then some (19, n) else none
  | _ => none
def yI (X E : ms_X) (q : Nat × Nat) : Int32 := if q.1 < 35 then X.1 q.1 q.2 else E.1 (q.1 - 35) q.2
def yJ (X E : ms_X) (q : Nat × Nat) : Int64 := if q.1 < 35 then X.2 q.1 q.2 else E.2 (q.1 - 35) q.2
def c_ov {α : Type} (own : Nat → Nat × Nat) (cv : Nat → Nat → Nat → Option (Nat × Nat)) (Y : Nat × Nat → α) (I : Nat → Nat → α) : Nat → Nat → α := fun a j => match cv (own a).1 (own a).2 j with
  | some q => Y q
  | none => I a j
/-- the memory m, where the class's cells hold what X and E say -/
def cm (m : am_Mem) (G : cg_G) (X E : ms_X) : am_Mem := (m.1, m.2.1, m.2.2.1, c_ov G.1 cvI (yI X E) m.2.2.2.1, c_ov G.1 cvJ (yJ X E) m.2.2.2.2.1, m.2.2.2.2.2)
def LC (m : am_Mem) (G : cg_G) (P R : Nat) : Prop :=
  (∀ a, (co G a).1 ≠ 0 → ca G (co G a).1 (co G a).2 = a ∧ am_K m a = ckd (co G a).1 ∧ am_L m a = cln P R (co G a).1 ∧ 1 ≤ a ∧ a ≤ am_n m) ∧ cx G 1 0 ∧
  (∀ t n j t' n', cx G t n → crf P R t n j = some (t', n') → am_R m (ca G t n) j = ca G t' n' ∧ cx G t' n') ∧ 1 ≤ P ∧ P ≤ 3 ∧ 1 ≤ R ∧ R ≤ 4
theorem c_ov_s {α : Type} {own : Nat → Nat × Nat} {cv : Nat → Nat → Nat → Option (Nat × Nat)} {Y : Nat × Nat → α} {I : Nat → Nat → α} {a j : Nat} {q : Nat × Nat} (h : cv (own a).1 (own a).2 j = some q) : c_ov own cv Y I a j = Y q := by
  unfold c_ov
  rw [h]
theorem c_ov_n {α : Type} {own : Nat → Nat × Nat} {cv : Nat → Nat → Nat → Option (Nat × Nat)} {Y : Nat × Nat → α} {I : Nat → Nat → α} {a j : Nat} (h : cv (own a).1 (own a).2 j = none) : c_ov own cv Y I a j = I a j := by
  unfold c_ov
  rw [h]
theorem c_ov_put {α : Type} {own : Nat → Nat × Nat} {cv : Nat → Nat → Nat → Option (Nat × Nat)} {ci : Nat × Nat → Nat × Nat × Nat} {Y : Nat × Nat → α} {I : Nat → Nat → α} {ad : Nat → Nat → Nat} {a j : Nat} {q : Nat × Nat} {v : α}
    (hinv : ∀ t n j q, cv t n j = some q → ci q = (t, n, j)) (h0 : ∀ n j, cv 0 n j = none) (hG : ∀ a, (own a).1 ≠ 0 → ad (own a).1 (own a).2 = a) (h : cv (own a).1 (own a).2 j = some q) (Y' : Nat × Nat → α) (h1 : Y' q = v) (h2 : ∀ p, p ≠ q → Y' p = Y p) : am_put (c_ov own cv Y I) a j v = c_ov own cv Y' I := by
  have z : ∀ b i p, cv (own b).1 (own b).2 i = some p → ad (own b).1 (own b).2 = b := by
    intro b i p hp
    refine hG b (fun q0 => ?_)
    rw [q0, h0] at hp
    cases hp
  funext b i
  unfold am_put
  by_cases hc : b = a ∧ i = j
  · obtain ⟨rfl, rfl⟩ := hc
    rw [if_pos ⟨rfl, rfl⟩, c_ov_s h, h1]
  · rw [if_neg hc]
    cases hb : cv (own b).1 (own b).2 i with
    | none => rw [c_ov_n hb, c_ov_n hb]
    | some p =>
      rw [c_ov_s hb, c_ov_s hb, h2]
      intro hp
      subst hp
      have e1 := (hinv _ _ _ _ hb).symm.trans (hinv _ _ _ _ h)
      have e2 : (own b).1 = (own a).1 := congrArg (fun z => z.1) e1
      have e3 : (own b).2 = (own a).2 := congrArg (fun z => z.2.1) e1
      have e4 : i = j := congrArg (fun z => z.2.2) e1
      refine hc ⟨?_, e4⟩
      rw [← z b i _ hb, ← z a j _ h, e2, e3]
theorem cvI_0 (n j : Nat) : cvI 0 n j = none := rfl
theorem cvJ_0 (n j : Nat) : cvJ 0 n j = none := rfl
theorem yI_U {X E : ms_X} {o i : Nat} {v : Int32} (ho : o < 35) : yI (xU X o i v) E (o, i) = v := by
  unfold yI
  rw [if_pos ho]
  exact xU_s _ _ _ _
theorem yI_U' {X E : ms_X} {o i : Nat} {v : Int32} {p : Nat × Nat} (h : p ≠ (o, i)) : yI (xU X o i v) E p = yI X E p := by
  unfold yI
  split
  · refine if_neg (fun q => h (Prod.ext q.1 q.2))
  · rfl
theorem yI_E {X E : ms_X} {o i : Nat} {v : Int32} : yI X (xU E o i v) (35 + o, i) = v := by
  unfold yI
  rw [if_neg (by show ¬ 35 + o < 35; omega)]
  show (xU E o i v).1 (35 + o - 35) i = v
  rw [show 35 + o - 35 = o by omega]
  exact xU_s _ _ _ _
theorem yI_E' {X E : ms_X} {o i : Nat} {v : Int32} {p : Nat × Nat} (h : p ≠ (35 + o, i)) : yI X (xU E o i v) p = yI X E p := by
  unfold yI
  split
  · rfl
  · rename_i h1
    refine if_neg (fun q => h (Prod.ext ?_ q.2))
    have := q.1
    show p.1 = 35 + o
    omega
theorem yJ_U {X E : ms_X} {o i : Nat} {v : Int64} (ho : o < 35) : yJ (xV X o i v) E (o, i) = v := by
  unfold yJ
  rw [if_pos ho]
  exact xV_s _ _ _ _
theorem yJ_U' {X E : ms_X} {o i : Nat} {v : Int64} {p : Nat × Nat} (h : p ≠ (o, i)) : yJ (xV X o i v) E p = yJ X E p := by
  unfold yJ
  split
  · refine if_neg (fun q => h (Prod.ext q.1 q.2))
  · rfl
section CM
variable {m : am_Mem} {G : cg_G} {X E : ms_X} {P R : Nat} {a j t n o i : Nat}
theorem LC.own (hL : LC m G P R) : ∀ a, (G.1 a).1 ≠ 0 → G.2 (G.1 a).1 (G.1 a).2 = a := fun a h => (hL.1 a h).1
theorem cm_setI (hL : LC m G P R) {v : Int32} (ho : o < 35) (h : cvI (co G a).1 (co G a).2 j = some (o, i)) : am_setI (cm m G X E) a j v = cm m G (xU X o i v) E := by
  show (m.1, m.2.1, m.2.2.1, am_put (c_ov G.1 cvI (yI X E) m.2.2.2.1) a j v, c_ov G.1 cvJ (yJ X E) m.2.2.2.2.1, m.2.2.2.2.2) = _
  rw [c_ov_put (fun _ _ _ _ h => cvI_inv h) cvI_0 hL.own h (yI (xU X o i v) E) (yI_U ho) (fun p hp => yI_U' hp)]
  rfl
theorem cm_setE (hL : LC m G P R) {v : Int32} (h : cvI (co G a).1 (co G a).2 j = some (35 + o, i)) : am_setI (cm m G X E) a j v = cm m G X (xU E o i v) := by
  show (m.1, m.2.1, m.2.2.1, am_put (c_ov G.1 cvI (yI X E) m.2.2.2.1) a j v, c_ov G.1 cvJ (yJ X E) m.2.2.2.2.1, m.2.2.2.2.2) = _
  rw [c_ov_put (fun _ _ _ _ h => cvI_inv h) cvI_0 hL.own h (yI X (xU E o i v)) yI_E (fun p hp => yI_E' hp)]
  rfl
theorem cm_setJ (hL : LC m G P R) {v : Int64} (ho : o < 35) (h : cvJ (co G a).1 (co G a).2 j = some (o, i)) : am_setJ (cm m G X E) a j v = cm m G (xV X o i v) E := by
  show (m.1, m.2.1, m.2.2.1, c_ov G.1 cvI (yI X E) m.2.2.2.1, am_put (c_ov G.1 cvJ (yJ X E) m.2.2.2.2.1) a j v, m.2.2.2.2.2) = _
  rw [c_ov_put (fun _ _ _ _ h => cvJ_inv h) cvJ_0 hL.own h (yJ (xV X o i v) E) (yJ_U ho) (fun p hp => yJ_U' hp)]
  rfl
theorem cm_I (ho : o < 35) (h : cvI (co G a).1 (co G a).2 j = some (o, i)) : am_I (cm m G X E) a j = X.1 o i := by
  show c_ov G.1 cvI (yI X E) m.2.2.2.1 a j = _
  rw [c_ov_s (own := G.1) h]
  exact if_pos ho
theorem cm_E (h : cvI (co G a).1 (co G a).2 j = some (35 + o, i)) : am_I (cm m G X E) a j = E.1 o i := by
  show c_ov G.1 cvI (yI X E) m.2.2.2.1 a j = _
  rw [c_ov_s (own := G.1) h]
  unfold yI
  rw [if_neg (by show ¬ 35 + o < 35; omega)]
  show E.1 (35 + o - 35) i = _
  rw [show 35 + o - 35 = o by omega]
theorem cm_J (ho : o < 35) (h : cvJ (co G a).1 (co G a).2 j = some (o, i)) : am_J (cm m G X E) a j = X.2 o i := by
  show c_ov G.1 cvJ (yJ X E) m.2.2.2.2.1 a j = _
  rw [c_ov_s (own := G.1) h]
  exact if_pos ho
theorem cm_F (h : cvJ (co G a).1 (co G a).2 j = some (35 + o, i)) : am_J (cm m G X E) a j = E.2 o i := by
  show c_ov G.1 cvJ (yJ X E) m.2.2.2.2.1 a j = _
  rw [c_ov_s (own := G.1) h]
  unfold yJ
  rw [if_neg (by show ¬ 35 + o < 35; omega)]
  show E.2 (35 + o - 35) i = _
  rw [show 35 + o - 35 = o by omega]
theorem y_K (hL : LC m G P R) (he : cx G t n) {ci : Nat} (ht : Nat.ble 1 t = true) (hc : ckd t = ci) : am_K (cm m G X E) (ca G t n) = ci := by
  have e : co G (ca G t n) = (t, n) := he
  have h := (hL.1 (ca G t n) (by rw [e]; have := Nat.le_of_ble_eq_true ht; show t ≠ 0; omega)).2.1
  rw [e] at h
  exact h.trans hc
theorem y_L (hL : LC m G P R) (he : cx G t n) (ht : Nat.ble 1 t = true) : am_L (cm m G X E) (ca G t n) = cln P R t := by
  have e : co G (ca G t n) = (t, n) := he
  have h := (hL.1 (ca G t n) (by rw [e]; have := Nat.le_of_ble_eq_true ht; show t ≠ 0; omega)).2.2.1
  rw [e] at h
  exact h
theorem y_0 (hL : LC m G P R) (he : cx G t n) (ht : Nat.ble 1 t = true) : 1 ≤ ca G t n ∧ ca G t n ≤ am_n m := by
  have e : co G (ca G t n) = (t, n) := he
  have h := (hL.1 (ca G t n) (by rw [e]; have := Nat.le_of_ble_eq_true ht; show t ≠ 0; omega)).2.2.2
  exact h
end CM
section YR
variable {sc : Nat × (Nat → Int32)} {k pc q : Nat} {ls st : List Value} {m : am_Mem} {G : cg_G} {X E : ms_X} {P R : Nat} {Q : am_Out → am_Mem → Prop} {t n : Nat}
theorem y_getR {idx ci j t' n' : Nat} (hL : LC m G P R) (he : cx G t n) (hd : am_at k pc (.getfield idx) 3 q) (hf : am_fld k idx ci j 2) (ht : Nat.ble 1 t = true) (hc : ckd t = ci) (hr : crf P R t n j = some (t', n')) (h : cx G t' n' → am_W sc k q ls (.ref (ca G t' n') :: st) (cm m G X E) Q) : am_W sc k pc ls (.ref (ca G t n) :: st) (cm m G X E) Q := by
  refine am_getR hd hf (y_K hL he ht hc) ?_
  obtain ⟨e1, e2⟩ := hL.2.2.1 t n j t' n' he hr
  show am_W sc k q ls (.ref (am_R m (ca G t n) j) :: st) (cm m G X E) Q
  rw [e1]
  exact h e2
theorem y_getI {idx ci j o i : Nat} (hL : LC m G P R) (he : cx G t n) (hd : am_at k pc (.getfield idx) 3 q) (hf : am_fld k idx ci j 0) (ht : Nat.ble 1 t = true) (hc : ckd t = ci) (hv : cvI t n j = some (o, i)) (ho : Nat.blt o 35 = true) (h : am_W sc k q ls (.int (X.1 o i) :: st) (cm m G X E) Q) : am_W sc k pc ls (.ref (ca G t n) :: st) (cm m G X E) Q := by
  refine am_getI hd hf (y_K hL he ht hc) ?_
  rw [cm_I (Nat.le_of_ble_eq_true ho) (by rw [show co G (ca G t n) = (t, n) from he]; exact hv)]
  exact h
theorem y_getE {idx ci j o i : Nat} (hL : LC m G P R) (he : cx G t n) (hd : am_at k pc (.getfield idx) 3 q) (hf : am_fld k idx ci j 0) (ht : Nat.ble 1 t = true) (hc : ckd t = ci) (hv : cvI t n j = some (35 + o, i)) (h : am_W sc k q ls (.int (E.1 o i) :: st) (cm m G X E) Q) : am_W sc k pc ls (.ref (ca G t n) :: st) (cm m G X E) Q := by
  refine am_getI hd hf (y_K hL he ht hc) ?_
  rw [cm_E (by rw [show co G (ca G t n) = (t, n) from he]; exact hv)]
  exact h
theorem y_getJ {idx ci j o i : Nat} (hL : LC m G P R) (he : cx G t n) (hd : am_at k pc (.getfield idx) 3 q) (hf : am_fld k idx ci j 1) (ht : Nat.ble 1 t = true) (hc : ckd t = ci) (hv : cvJ t n j = some (o, i)) (ho : Nat.blt o 35 = true) (h : am_W sc k q ls (.long (X.2 o i) :: st) (cm m G X E) Q) : am_W sc k pc ls (.ref (ca G t n) :: st) (cm m G X E) Q := by
  refine am_getJ hd hf (y_K hL he ht hc) ?_
  rw [cm_J (Nat.le_of_ble_eq_true ho) (by rw [show co G (ca G t n) = (t, n) from he]; exact hv)]
  exact h
theorem y_getF {idx ci j o i : Nat} (hL : LC m G P R) (he : cx G t n) (hd : am_at k pc (.getfield idx) 3 q) (hf : am_fld k idx ci j 1) (ht : Nat.ble 1 t = true) (hc : ckd t = ci) (hv : cvJ t n j = some (35 + o, i)) (h : am_W sc k q ls (.long (E.2 o i) :: st) (cm m G X E) Q) : am_W sc k pc ls (.ref (ca G t n) :: st) (cm m G X E) Q := by
  refine am_getJ hd hf (y_K hL he ht hc) ?_
  rw [cm_F (by rw [show co G (ca G t n) = (t, n) from he]; exact hv)]
  exact h
theorem y_putI {idx ci j o i : Nat} {v : Int32} (hL : LC m G P R) (he : cx G t n) (hd : am_at k pc (.putfield idx) 3 q) (hf : am_fld k idx ci j 0) (hpf : am_pf k ci j = true) (hty : am_ty ci j = .int) (ht : Nat.ble 1 t = true) (hc : ckd t = ci) (hv : cvI t n j = some (o, i)) (ho : Nat.blt o 35 = true) (h : am_W sc k q ls st (cm m G (xU X o i v) E) Q) : am_W sc k pc ls (.int v :: .ref (ca G t n) :: st) (cm m G X E) Q := by
  refine am_putI hd hf hpf (y_K hL he ht hc) hty ?_
  rw [cm_setI hL (Nat.le_of_ble_eq_true ho) (by rw [show co G (ca G t n) = (t, n) from he]; exact hv)]
  exact h
theorem y_putZ {idx ci j o i : Nat} {v : Int32} (hL : LC m G P R) (he : cx G t n) (hd : am_at k pc (.putfield idx) 3 q) (hf : am_fld k idx ci j 0) (hpf : am_pf k ci j = true) (hty : am_ty ci j = .boolean) (hx : v = 0 ∨ v = 1) (ht : Nat.ble 1 t = true) (hc : ckd t = ci) (hv : cvI t n j = some (o, i)) (ho : Nat.blt o 35 = true) (h : am_W sc k q ls st (cm m G (xU X o i v) E) Q) : am_W sc k pc ls (.int v :: .ref (ca G t n) :: st) (cm m G X E) Q := by
  refine am_putZ hd hf hpf (y_K hL he ht hc) hty hx ?_
  rw [cm_setI hL (Nat.le_of_ble_eq_true ho) (by rw [show co G (ca G t n) = (t, n) from he]; exact hv)]
  exact h
theorem y_putE {idx ci j o i : Nat} {v : Int32} (hL : LC m G P R) (he : cx G t n) (hd : am_at k pc (.putfield idx) 3 q) (hf : am_fld k idx ci j 0) (hpf : am_pf k ci j = true) (hty : am_ty ci j = .int) (ht : Nat.ble 1 t = true) (hc : ckd t = ci) (hv : cvI t n j = some (35 + o, i)) (h : am_W sc k q ls st (cm m G X (xU E o i v)) Q) : am_W sc k pc ls (.int v :: .ref (ca G t n) :: st) (cm m G X E) Q := by
  refine am_putI hd hf hpf (y_K hL he ht hc) hty ?_
  rw [cm_setE hL (by rw [show co G (ca G t n) = (t, n) from he]; exact hv)]
  exact h
theorem y_putJ {idx ci j o i : Nat} {v : Int64} (hL : LC m G P R) (he : cx G t n) (hd : am_at k pc (.putfield idx) 3 q) (hf : am_fld k idx ci j 1) (hpf : am_pf k ci j = true) (hty : am_ty ci j = .long) (ht : Nat.ble 1 t = true) (hc : ckd t = ci) (hv : cvJ t n j = some (o, i)) (ho : Nat.blt o 35 = true) (h : am_W sc k q ls st (cm m G (xV X o i v) E) Q) : am_W sc k pc ls (.long v :: .ref (ca G t n) :: st) (cm m G X E) Q := by
  refine am_putJ hd hf hpf (y_K hL he ht hc) hty ?_
  rw [cm_setJ hL (Nat.le_of_ble_eq_true ho) (by rw [show co G (ca G t n) = (t, n) from he]; exact hv)]
  exact h
theorem la_lt (t : Nat) : la t < 2 ^ 31 := by
  unfold la
  split <;> decide
theorem y_iald {o i : Nat} {x : Int32} (nn : Nat) (hL : LC m G P R) (he : cx G t n) (hd : am_at k pc .iaload 1 q) (hx : x = nI nn) (hb : nn < la t) (ht : Nat.ble 1 t = true) (hc : ckd t = 11) (hv : cva t n nn = (o, i)) (ho : Nat.blt o 35 = true) (h : am_W sc k q ls (.int (X.1 o i) :: st) (cm m G X E) Q) : am_W sc k pc ls (.int x :: .ref (ca G t n) :: st) (cm m G X E) Q := by
  subst hx
  refine am_iald hd (y_K hL he ht hc) (by rw [y_L hL he ht, la_cln hb]; exact vp_in_nI hb (la_lt t)) ?_
  rw [nI_clamp (Nat.lt_trans hb (la_lt t)), cm_I (Nat.le_of_ble_eq_true ho) (by rw [show co G (ca G t n) = (t, n) from he]; exact (cvI_a hb).trans (congrArg some hv))]
  exact h
theorem y_iast {o i : Nat} {x y : Int32} (nn : Nat) (hL : LC m G P R) (he : cx G t n) (hd : am_at k pc .iastore 1 q) (hx : x = nI nn) (hb : nn < la t) (ht : Nat.ble 1 t = true) (hc : ckd t = 11) (hv : cva t n nn = (o, i)) (ho : Nat.blt o 35 = true) (h : am_W sc k q ls st (cm m G (xU X o i y) E) Q) : am_W sc k pc ls (.int y :: .int x :: .ref (ca G t n) :: st) (cm m G X E) Q := by
  subst hx
  refine am_iast hd (y_K hL he ht hc) (by rw [y_L hL he ht, la_cln hb]; exact vp_in_nI hb (la_lt t)) ?_
  rw [nI_clamp (Nat.lt_trans hb (la_lt t)), cm_setI hL (Nat.le_of_ble_eq_true ho) (by rw [show co G (ca G t n) = (t, n) from he]; exact (cvI_a hb).trans (congrArg some hv))]
  exact h
theorem y_lald {x : Int32} (nn : Nat) (hL : LC m G P R) (he : cx G 10 n) (hd : am_at k pc .laload 1 q) (hx : x = nI nn) (hb : nn < 10) (h : am_W sc k q ls (.long (X.2 13 (10 * n + nn)) :: st) (cm m G X E) Q) : am_W sc k pc ls (.int x :: .ref (ca G 10 n) :: st) (cm m G X E) Q := by
  subst hx
  refine am_lald hd (y_K hL he rfl rfl) (by rw [y_L hL he rfl]; exact vp_in_nI (N := 10) hb (by decide)) ?_
  rw [nI_clamp (by omega), cm_J (o := 13) (i := 10 * n + nn) (by decide) (by rw [show co G (ca G 10 n) = (10, n) from he]; exact if_pos hb)]
  exact h
theorem y_last {x : Int32} {y : Int64} (nn : Nat) (hL : LC m G P R) (he : cx G 10 n) (hd : am_at k pc .lastore 1 q) (hx : x = nI nn) (hb : nn < 10) (h : am_W sc k q ls st (cm m G (xV X 13 (10 * n + nn) y) E) Q) : am_W sc k pc ls (.long y :: .int x :: .ref (ca G 10 n) :: st) (cm m G X E) Q := by
  subst hx
  refine am_last hd (y_K hL he rfl rfl) (by rw [y_L hL he rfl]; exact vp_in_nI (N := 10) hb (by decide)) ?_
  rw [nI_clamp (by omega), cm_setJ hL (o := 13) (i := 10 * n + nn) (by decide) (by rw [show co G (ca G 10 n) = (10, n) from he]; exact if_pos hb)]
  exact h
theorem y_alen (hL : LC m G P R) (he : cx G t n) (hd : am_at k pc .arraylength 1 q) (ht : Nat.ble 1 t = true) (h1 : Nat.ble 11 (ckd t) = true) (h2 : Nat.blt (ckd t) 19 = true) {len : Nat} (hl : cln P R t = len) (h : am_W sc k q ls (.int (nI len) :: st) (cm m G X E) Q) : am_W sc k pc ls (.ref (ca G t n) :: st) (cm m G X E) Q := by
  refine am_alen hd (y_K hL he ht rfl) (Nat.le_of_ble_eq_true h1) (Nat.le_of_ble_eq_true h2) ?_
  rw [y_L hL he ht, hl]
  exact h
/-- an element of an array of rows that stay (logs, replicas, sessions) -/
theorem y_aald {x : Int32} {ci t' n' : Nat} (nn : Nat) (hL : LC m G P R) (he : cx G t n) (hd : am_at k pc .aaload 1 q) (hx : x = nI nn) (hb : nn < cln P R t) (hb2 : nn < 1000) (ht : Nat.ble 1 t = true) (hc : ckd t = 14 + ci) (hci : ci < 5) (hr : crf P R t n nn = some (t', n')) (h : cx G t' n' → am_W sc k q ls (.ref (ca G t' n') :: st) (cm m G X E) Q) : am_W sc k pc ls (.int x :: .ref (ca G t n) :: st) (cm m G X E) Q := by
  subst hx
  refine am_aald hd (y_K hL he ht hc) hci (by rw [y_L hL he ht]; exact vp_in_nI hb (by have h4 := hL.2.2.2; unfold cln; split <;> omega)) ?_
  obtain ⟨e1, e2⟩ := hL.2.2.1 t n nn t' n' he hr
  rw [nI_clamp (by omega)]
  show am_W sc k q ls (.ref (am_R m (ca G t n) nn) :: st) (cm m G X E) Q
  rw [e1]
  exact h e2
theorem y_logs {x : Int32} (p : Nat) (hL : LC m G P R) (he : cx G 20 0) (hd : am_at k pc .aaload 1 q) (hx : x = nI p) (hb : p < P) (h : cx G 2 p → am_W sc k q ls (.ref (ca G 2 p) :: st) (cm m G X E) Q) : am_W sc k pc ls (.int x :: .ref (ca G 20 0) :: st) (cm m G X E) Q :=
  y_aald (ci := 1) p hL he hd hx hb (by have h4 := hL.2.2.2; omega) rfl rfl (by decide) (if_pos hb) h
theorem y_reps {x : Int32} (p : Nat) (hL : LC m G P R) (he : cx G 21 0) (hd : am_at k pc .aaload 1 q) (hx : x = nI p) (hb : p < R) (h : cx G 4 p → am_W sc k q ls (.ref (ca G 4 p) :: st) (cm m G X E) Q) : am_W sc k pc ls (.int x :: .ref (ca G 21 0) :: st) (cm m G X E) Q :=
  y_aald (ci := 3) p hL he hd hx hb (by have h4 := hL.2.2.2; omega) rfl rfl (by decide) (if_pos hb) h
theorem y_sess {x : Int32} (p : Nat) (hL : LC m G P R) (he : cx G 22 0) (hd : am_at k pc .aaload 1 q) (hx : x = nI p) (hb : p < 8) (h : cx G 14 p → am_W sc k q ls (.ref (ca G 14 p) :: st) (cm m G X E) Q) : am_W sc k pc ls (.int x :: .ref (ca G 22 0) :: st) (cm m G X E) Q :=
  y_aald (ci := 4) p hL he hd hx hb (by omega) rfl rfl (by decide) (if_pos hb) h
end YR
