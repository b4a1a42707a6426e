/-! memory and cells -/
theorem am_ws_get {base : Nat} {cy : Nat → ClassId} {m : am_Mem} {i : Nat} (h : i < am_n m) : (am_ws base cy m)[i]? = some (base + i, am_cell base cy m (i + 1)) := by
  simp [am_ws, h]
theorem am_ws_len {base : Nat} {cy : Nat → ClassId} {m : am_Mem} : (am_ws base cy m).length = am_n m := by simp [am_ws]
theorem am_ws_at {base : Nat} {cy : Nat → ClassId} {m : am_Mem} {i : Nat} {q : Nat × va_E} (h : (am_ws base cy m)[i]? = some q) : i < am_n m ∧ q = (base + i, am_cell base cy m (i + 1)) := by
  have hl : i < am_n m := by
    have := (List.getElem?_eq_some_iff.mp h).1
    rwa [am_ws_len] at this
  rw [am_ws_get hl] at h
  exact ⟨hl, (Option.some.inj h).symm⟩
theorem am_ws_D {base : Nat} {cy : Nat → ClassId} {m : am_Mem} : va_D (fun q => base ≤ q) (am_ws base cy m) := by
  refine ⟨fun i j p q hp hq e => ?_, fun k q hk => ?_⟩
  · obtain ⟨-, rfl⟩ := am_ws_at hp
    obtain ⟨-, rfl⟩ := am_ws_at hq
    have e2 : base + i = base + j := e
    omega
  · obtain ⟨-, rfl⟩ := am_ws_at hk
    exact Nat.le_add_right _ _
theorem am_K_ix {m : am_Mem} (hO : am_Ok m) {a c : Nat} (hk : am_K m a = c) (hc : c ≠ 99) : ∃ i, a = i + 1 ∧ i < am_n m := by
  cases a with
  | zero => exact absurd ((hO 0 (Or.inl rfl)).symm.trans hk).symm hc
  | succ i =>
    by_cases h : am_n m < i + 1
    · exact absurd ((hO (i + 1) (Or.inr h)).symm.trans hk).symm hc
    · exact ⟨i, rfl, by omega⟩
theorem am_fl_congr {base : Nat} {m m' : am_Mem} {a : Nat} (hI : ∀ j, am_I m' a j = am_I m a j) (hJ : ∀ j, am_J m' a j = am_J m a j) (hR : ∀ j, am_R m' a j = am_R m a j) : ∀ (ks : List Nat) (j : Nat), am_fl base m' a ks j = am_fl base m a ks j := by
  intro ks
  induction ks with
  | nil => intro j; rfl
  | cons kd r ih =>
    intro j
    have h1 : am_fv base m' a kd j = am_fv base m a kd j := by
      unfold am_fv
      rw [hI, hJ, hR]
    simp only [am_fl, h1, ih]
theorem am_cell_congr {base : Nat} {cy : Nat → ClassId} {m m' : am_Mem} {a : Nat} (hK : am_K m' a = am_K m a) (hL : am_L m' a = am_L m a) (hI : ∀ j, am_I m' a j = am_I m a j) (hJ : ∀ j, am_J m' a j = am_J m a j) (hR : ∀ j, am_R m' a j = am_R m a j) : am_cell base cy m' a = am_cell base cy m a := by
  have e1 : am_I m' a = am_I m a := funext hI
  have e2 : am_J m' a = am_J m a := funext hJ
  unfold am_cell am_ac
  simp only [hK, hL, e1, e2, hR, am_fl_congr hI hJ hR]
theorem am_fl_len {base : Nat} {m : am_Mem} {a : Nat} : ∀ (ks : List Nat) (j : Nat), (am_fl base m a ks j).length = ks.length := by
  intro ks
  induction ks with
  | nil => intro j; rfl
  | cons kd r ih => intro j; simp [am_fl, ih]
theorem am_fl_get {base : Nat} {m : am_Mem} {a : Nat} : ∀ (ks : List Nat) (j i kd : Nat), ks[i]? = some kd → (am_fl base m a ks j)[i]? = some (am_fv base m a kd (j + i)) := by
  intro ks
  induction ks with
  | nil => intro j i kd h; simp at h
  | cons k0 r ih =>
    intro j i kd h
    cases i with
    | zero =>
      simp at h
      subst h
      rfl
    | succ i =>
      have h2 := ih (j + 1) i kd (by simpa using h)
      rw [show j + (i + 1) = j + 1 + i by omega, ← h2]
      rfl
theorem am_fl_set {base : Nat} {m m' : am_Mem} {a : Nat} {v : Value} : ∀ (ks : List Nat) (j i kd : Nat), ks[i]? = some kd → (∀ kd' j', j' ≠ j + i → am_fv base m' a kd' j' = am_fv base m a kd' j') → am_fv base m' a kd (j + i) = v → am_fl base m' a ks j = (am_fl base m a ks j).set i v := by
  intro ks
  induction ks with
  | nil => intro j i kd h; simp at h
  | cons k0 r ih =>
    intro j i kd h ho hv
    cases i with
    | zero =>
      simp at h
      subst h
      have ht : ∀ (r : List Nat) (j1 : Nat), j < j1 → am_fl base m' a r j1 = am_fl base m a r j1 := by
        intro r
        induction r with
        | nil => intro j1 _; rfl
        | cons k1 r ih2 =>
          intro j1 hj
          simp only [am_fl]
          rw [ho k1 j1 (by omega), ih2 (j1 + 1) (by omega)]
      simp only [am_fl, List.set_cons_zero]
      rw [ht r (j + 1) (by omega)]
      rw [show am_fv base m' a k0 j = v from hv]
    | succ i =>
      simp only [am_fl, List.set_cons_succ]
      rw [ho k0 j (by omega), ih (j + 1) i kd (by simpa using h) (fun kd' j' hj => ho kd' j' (by omega)) (by rw [show j + 1 + i = j + (i + 1) by omega]; exact hv)]
theorem am_ws_upd {base : Nat} {cy : Nat → ClassId} {m m' : am_Mem} {i : Nat} {E : va_E} (h1 : am_n m' = am_n m) (h2 : ∀ c, c ≠ i + 1 → am_cell base cy m' c = am_cell base cy m c) (h3 : am_cell base cy m' (i + 1) = E) : (am_ws base cy m).set i (base + i, E) = am_ws base cy m' := by
  apply List.ext_getElem?
  intro j
  by_cases hj : j < am_n m
  · rw [am_ws_get (m := m') (by rw [h1]; exact hj)]
    by_cases hi : i = j
    · subst hi
      rw [List.getElem?_set_self (by rw [am_ws_len]; exact hj), h3]
    · rw [List.getElem?_set_ne hi, am_ws_get hj, h2 _ (by omega)]
  · have e1 : ((am_ws base cy m).set i (base + i, E))[j]? = none := by
      rw [List.getElem?_eq_none_iff, List.length_set, am_ws_len]; omega
    have e2 : (am_ws base cy m')[j]? = none := by
      rw [List.getElem?_eq_none_iff, am_ws_len, h1]; omega
    rw [e1, e2]
theorem am_ws_new {base : Nat} {cy : Nat → ClassId} {m m' : am_Mem} {E : va_E} (h1 : am_n m' = am_n m + 1) (h2 : ∀ c, c ≤ am_n m → am_cell base cy m' c = am_cell base cy m c) (h3 : am_cell base cy m' (am_n m + 1) = E) : am_ws base cy m ++ [(base + am_n m, E)] = am_ws base cy m' := by
  apply List.ext_getElem?
  intro j
  by_cases hj : j < am_n m
  · rw [am_ws_get (m := m') (by omega), List.getElem?_append_left (by rw [am_ws_len]; exact hj), am_ws_get hj, h2 _ (by omega)]
  · by_cases hj2 : j = am_n m
    · subst hj2
      rw [am_ws_get (m := m') (by omega), List.getElem?_append_right (by rw [am_ws_len]; exact Nat.le_refl _), am_ws_len, Nat.sub_self, h3]
      rfl
    · have e1 : (am_ws base cy m ++ [(base + am_n m, E)])[j]? = none := by
        rw [List.getElem?_eq_none_iff, List.length_append, am_ws_len]; simp; omega
      have e2 : (am_ws base cy m')[j]? = none := by
        rw [List.getElem?_eq_none_iff, am_ws_len]; omega
      rw [e1, e2]
/-- the heap's size out of the frame's own count -/
theorem am_fix {p : Program} {l : Launch} {e : Env} {R : Room} {s : State} {mid : MethodId} {args : Array Value} {below : List Frame} {meth : Method} {c : Code} {H : Heap} {locs : List Loc} {cells slots : Nat} {Q : State → Prop} {g : JFrame} {base : Nat} {D : va_G} {cy : Nat → ClassId} {m : am_Mem}
    (hP : va_P D am_cl (am_ws base cy m) H) (hS : va_S (fun q => base ≤ q) s.heap H locs) (hb : base ≤ s.heap.size) (hex : s.heap.size + cells = base + am_n m)
    (h : H.size = base + am_n m → W p l e R s mid args below meth c H locs cells slots Q g) : W p l e R s mid args below meth c H locs cells slots Q g := by
  intro T hT X
  refine h ?_ T hT X
  have h1 := X.heapSize
  rw [hT] at h1
  have h2 : base + am_n m ≤ H.size := by
    cases hn : am_n m with
    | zero =>
      have := hS.1
      omega
    | succ n =>
      have h3 := (hP n _ (am_ws_get (by omega))).lt
      have h4 : base + n < H.size := h3
      omega
  omega
/-! the classes -/
def am_r (ci : Nat) : vw_C := am_cl.getD ci ("", am_TE, 0)
def am_ty (ci : Nat) : Nat → FieldType := match ci with
  | 0 => tyX0
  | 1 => tyX1
  | 2 => tyX2
  | 3 => tyX3
  | 4 => tyX4
  | 5 => tyX5
  | 6 => tyX6
  | _ => tyX7
def am_kt (kd : Nat) (t : FieldType) : Bool := match kd, t with
  | 0, .int => true
  | 0, .boolean => true
  | 1, .long => true
  | 2, .object _ => true
  | 2, .array _ => true
  | _, _ => false
def am_CP (ci : Nat) : Prop := am_cl[ci]? = some (am_r ci) ∧ (am_r ci).2.2 = (am_fk ci).length ∧ (∀ w ∈ u_ws (am_r ci).1 (am_r ci).2.1 (am_r ci).2.2, w ∈ lw_tbl) ∧ (∀ w ∈ u_ws (am_r ci).1 (am_r ci).2.1 (am_r ci).2.2, goodWord w = true) ∧
  (∀ k, k < (am_r ci).2.2 → parseFieldDescriptor ((am_r ci).2.1 k).2.2.1 = some (am_ty ci k)) ∧ (∀ a, a < (am_r ci).2.2 → ∀ b, b < (am_r ci).2.2 → a ≠ b → ((am_r ci).2.1 a).2.1 ≠ ((am_r ci).2.1 b).2.1) ∧
  (∀ j, j < (am_fk ci).length → am_kt ((am_fk ci).getD j 3) (am_ty ci j) = true)
theorem am_cp0 : am_CP 0 := ⟨rfl, rfl, by decide +kernel, by decide +kernel, tyX0_ok, nmX0, by decide +kernel⟩
theorem am_cp1 : am_CP 1 := ⟨rfl, rfl, by decide +kernel, by decide +kernel, tyX1_ok, nmX1, by decide +kernel⟩
theorem am_cp2 : am_CP 2 := ⟨rfl, rfl, by decide +kernel, by decide +kernel, tyX2_ok, nmX2, by decide +kernel⟩
theorem am_cp3 : am_CP 3 := ⟨rfl, rfl, by decide +kernel, by decide +kernel, tyX3_ok, nmX3, by decide +kernel⟩
theorem am_cp4 : am_CP 4 := ⟨rfl, rfl, by decide +kernel, by decide +kernel, tyX4_ok, nmX4, by decide +kernel⟩
theorem am_cp5 : am_CP 5 := ⟨rfl, rfl, by decide +kernel, by decide +kernel, tyX5_ok, nmX5, by decide +kernel⟩
theorem am_cp6 : am_CP 6 := ⟨rfl, rfl, by decide +kernel, by decide +kernel, tyX6_ok, nmX6, by decide +kernel⟩
theorem am_cp7 : am_CP 7 := ⟨rfl, rfl, by decide +kernel, by decide +kernel, tyX7_ok, nmX7, by decide +kernel⟩
theorem am_cp {ci : Nat} (h : ci < 8) : am_CP ci := by
  match ci, h with
  | 0, _ => exact am_cp0
  | 1, _ => exact am_cp1
  | 2, _ => exact am_cp2
  | 3, _ => exact am_cp3
  | 4, _ => exact am_cp4
  | 5, _ => exact am_cp5
  | 6, _ => exact am_cp6
  | 7, _ => exact am_cp7
