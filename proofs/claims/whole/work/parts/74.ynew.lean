/-! the class: new cells, and how they become its own -/
section
variable {sc : Nat × (Nat → Int32)} {m m2 m3 : am_Mem} {G : cg_G} {X Y E F : ms_X} {P R N T a t n : Nat}
/-- what was there is as it was -/
def c_up (m m2 : am_Mem) : Prop := am_n m ≤ am_n m2 ∧ ∀ a, a ≤ am_n m → am_K m2 a = am_K m a ∧ am_L m2 a = am_L m a ∧ ∀ j, am_I m2 a j = am_I m a j ∧ am_J m2 a j = am_J m a j ∧ am_R m2 a j = am_R m a j
theorem c_up.refl (m : am_Mem) : c_up m m := ⟨Nat.le_refl _, fun a _ => ⟨rfl, rfl, fun j => ⟨rfl, rfl, rfl⟩⟩⟩
theorem c_up.trans (h : c_up m m2) (h2 : c_up m2 m3) : c_up m m3 := by
  refine ⟨Nat.le_trans h.1 h2.1, fun a ha => ?_⟩
  obtain ⟨b1, b2, b3⟩ := h.2 a ha
  obtain ⟨c1, c2, c3⟩ := h2.2 a (Nat.le_trans ha h.1)
  exact ⟨c1.trans b1, c2.trans b2, fun j => ⟨(c3 j).1.trans (b3 j).1, (c3 j).2.1.trans (b3 j).2.1, (c3 j).2.2.trans (b3 j).2.2⟩⟩
theorem c_up.new (m : am_Mem) (kd len sz : Nat) : c_up m (am_new m kd len sz) := by
  refine ⟨by show m.1.1 ≤ m.1.1 + 1; omega, fun a ha => ?_⟩
  have ne : a ≠ m.1.1 + 1 := by have : a ≤ m.1.1 := ha; omega
  exact ⟨if_neg ne, if_neg ne, fun j => ⟨if_neg ne, if_neg ne, if_neg ne⟩⟩
theorem c_up.setI (h : c_up m m2) (ha : am_n m < a) (j : Nat) (v : Int32) : c_up m (am_setI m2 a j v) := by
  refine ⟨h.1, fun b hb => ?_⟩
  obtain ⟨b1, b2, b3⟩ := h.2 b hb
  exact ⟨b1, b2, fun i => ⟨(if_neg (fun q => by have := q.1; omega)).trans (b3 i).1, (b3 i).2.1, (b3 i).2.2⟩⟩
theorem c_up.setJ (h : c_up m m2) (ha : am_n m < a) (j : Nat) (v : Int64) : c_up m (am_setJ m2 a j v) := by
  refine ⟨h.1, fun b hb => ?_⟩
  obtain ⟨b1, b2, b3⟩ := h.2 b hb
  exact ⟨b1, b2, fun i => ⟨(b3 i).1, (if_neg (fun q => by have := q.1; omega)).trans (b3 i).2.1, (b3 i).2.2⟩⟩
theorem c_up.setR (h : c_up m m2) (ha : am_n m < a) (j v : Nat) : c_up m (am_setR m2 a j v) := by
  refine ⟨h.1, fun b hb => ?_⟩
  obtain ⟨b1, b2, b3⟩ := h.2 b hb
  exact ⟨b1, b2, fun i => ⟨(b3 i).1, (b3 i).2.1, (if_neg (fun q => by have := q.1; omega)).trans (b3 i).2.2⟩⟩
theorem c_up.rowI (h : c_up m m2) (ha : am_n m < a) (g : Nat → Int32) : c_up m (am_rowI m2 a g) := by
  refine ⟨h.1, fun b hb => ?_⟩
  obtain ⟨b1, b2, b3⟩ := h.2 b hb
  exact ⟨b1, b2, fun i => ⟨(if_neg (by omega)).trans (b3 i).1, (b3 i).2.1, (b3 i).2.2⟩⟩
theorem crf_0 {j t' n' : Nat} (h : crf P R t n j = some (t', n')) : t' ≠ 0 ∧ t ≠ 0 := by
  unfold crf at h
  repeat' split at h
  all_goals first | (cases h; exact ⟨by decide, by decide⟩) | cases h
theorem LC.up (hL : LC m G P R) (h : c_up m m2) : LC m2 G P R := by
  refine ⟨fun a ha => ?_, hL.2.1, fun t n j t' n' he hr => ?_, hL.2.2.2⟩
  · obtain ⟨b1, b2, b3, b4, b5⟩ := hL.1 a ha
    obtain ⟨c1, c2, -⟩ := h.2 a b5
    exact ⟨b1, c1.trans b2, c2.trans b3, b4, Nat.le_trans b5 h.1⟩
  · obtain ⟨h1, h2⟩ := hL.2.2.1 t n j t' n' he hr
    refine ⟨?_, h2⟩
    have ht : (co G (ca G t n)).1 ≠ 0 := by
      rw [show co G (ca G t n) = (t, n) from he]
      exact (crf_0 hr).2
    exact ((h.2 _ (hL.1 _ ht).2.2.2.2).2.2 j).2.2.trans h1
theorem INV.up (h : INV m G X E P R N T) (hu : c_up m m2) : INV m2 G X E P R N T := by
  have hL := h.1
  have rr : ∀ {t n j}, cx G t n → Nat.ble 1 t = true → am_R m2 (ca G t n) j = am_R m (ca G t n) j := fun he ht => ((hu.2 _ (y_0 hL he ht).2).2.2 _).2.2
  refine ⟨hL.up hu, ⟨fun k hk => ⟨(rr hL.e23 rfl).trans (h.2.1.1 k hk).1, (h.2.1.1 k hk).2⟩, fun p q hp h1 h2 => ⟨(rr (hL.e3 hp) rfl).trans (h.2.1.2.1 p q hp h1 h2).1, (h.2.1.2.1 p q hp h1 h2).2⟩, h.2.1.2.2⟩, h.2.2.1, h.2.2.2.1, fun k hk hs => (rr hL.w rfl).trans (h.2.2.2.2 k hk hs)⟩
theorem c_up.fr (h : c_up m m2) (h1 : am_n m2 ≤ am_n m + 8) (h2 : am_u m2 ≤ am_u m + 64) : c_fr m G m2 G := ⟨h.1, h1, h2, rfl, fun a ha h0 => ⟨h0, h.2 a ha⟩⟩
theorem cm_put {α : Type} {cv : Nat → Nat → Nat → Option (Nat × Nat)} {Y : Nat × Nat → α} {I : Nat → Nat → α} (h0 : ∀ n j, cv 0 n j = none) (ha : (co G a).1 = 0) (j : Nat) (v : α) : am_put (c_ov G.1 cv Y I) a j v = c_ov G.1 cv Y (am_put I a j v) := by
  funext b i
  unfold am_put
  by_cases hc : b = a ∧ i = j
  · obtain ⟨rfl, rfl⟩ := hc
    have h1 : cv (G.1 b).1 (G.1 b).2 i = none := by rw [show (G.1 b).1 = 0 from ha]; exact h0 _ _
    rw [if_pos ⟨rfl, rfl⟩, c_ov_n h1, if_pos ⟨rfl, rfl⟩]
  · rw [if_neg hc]
    unfold c_ov
    split
    · rfl
    · exact (if_neg hc).symm
theorem cm_rowu {α : Type} {cv : Nat → Nat → Nat → Option (Nat × Nat)} {Y : Nat × Nat → α} {I : Nat → Nat → α} (h0 : ∀ n j, cv 0 n j = none) (ha : (co G a).1 = 0) (g : Nat → α) : am_row (c_ov G.1 cv Y I) a g = c_ov G.1 cv Y (am_row I a g) := by
  funext b i
  unfold am_row
  by_cases hc : b = a
  · subst hc
    have h1 : cv (G.1 b).1 (G.1 b).2 i = none := by rw [show (G.1 b).1 = 0 from ha]; exact h0 _ _
    rw [if_pos rfl, c_ov_n h1, if_pos rfl]
  · rw [if_neg hc]
    unfold c_ov
    split
    · rfl
    · exact (if_neg hc).symm
theorem cm_setIu (ha : (co G a).1 = 0) (j : Nat) (v : Int32) : am_setI (cm m G X E) a j v = cm (am_setI m a j v) G X E := by
  show (m.1, m.2.1, m.2.2.1, am_put (c_ov G.1 cvI (yI X E) m.2.2.2.1) a j v, c_ov G.1 cvJ (yJ X E) m.2.2.2.2.1, m.2.2.2.2.2) = _
  rw [cm_put cvI_0 ha]
  rfl
theorem cm_setJu (ha : (co G a).1 = 0) (j : Nat) (v : Int64) : am_setJ (cm m G X E) a j v = cm (am_setJ m a j v) G X E := by
  show (m.1, m.2.1, m.2.2.1, c_ov G.1 cvI (yI X E) m.2.2.2.1, am_put (c_ov G.1 cvJ (yJ X E) m.2.2.2.2.1) a j v, m.2.2.2.2.2) = _
  rw [cm_put cvJ_0 ha]
  rfl
theorem cm_rowIu (ha : (co G a).1 = 0) (g : Nat → Int32) : am_rowI (cm m G X E) a g = cm (am_rowI m a g) G X E := by
  show (m.1, m.2.1, m.2.2.1, am_row (c_ov G.1 cvI (yI X E) m.2.2.2.1) a g, c_ov G.1 cvJ (yJ X E) m.2.2.2.2.1, m.2.2.2.2.2) = _
  rw [cm_rowu cvI_0 ha]
  rfl
theorem cm_Iu (ha : (co G a).1 = 0) (j : Nat) : am_I (cm m G X E) a j = am_I m a j := by
  have h1 : cvI (G.1 a).1 (G.1 a).2 j = none := by rw [show (G.1 a).1 = 0 from ha]; rfl
  show c_ov G.1 cvI (yI X E) m.2.2.2.1 a j = _
  rw [c_ov_n h1]
  rfl
def c_ad (G : cg_G) (a t n : Nat) : cg_G := (fun b => if b = a then (t, n) else G.1 b, fun t' n' => if t' = t ∧ n' = n then a else G.2 t' n')
theorem c_ad_o {b : Nat} (h : b ≠ a) : co (c_ad G a t n) b = co G b := if_neg h
theorem c_ad_s : co (c_ad G a t n) a = (t, n) := if_pos rfl
theorem c_ad_a : ca (c_ad G a t n) t n = a := if_pos ⟨rfl, rfl⟩
theorem c_ad_b {t' n' : Nat} (h : ¬ (t' = t ∧ n' = n)) : ca (c_ad G a t n) t' n' = ca G t' n' := if_neg h
theorem c_ad_x : cx (c_ad G a t n) t n := by
  show co (c_ad G a t n) (ca (c_ad G a t n) t n) = (t, n)
  rw [c_ad_a]
  exact c_ad_s
theorem cx.ad {t' n' : Nat} (h : cx G t' n') (ha : (co G a).1 = 0) (hn : ∀ b, co G b ≠ (t, n)) (h0 : t' ≠ 0) : cx (c_ad G a t n) t' n' ∧ ca (c_ad G a t n) t' n' = ca G t' n' := by
  have e : co G (ca G t' n') = (t', n') := h
  have h1 : ¬ (t' = t ∧ n' = n) := by
    rintro ⟨rfl, rfl⟩
    exact hn _ e
  have h2 : ca (c_ad G a t n) t' n' = ca G t' n' := c_ad_b h1
  refine ⟨?_, h2⟩
  show co (c_ad G a t n) (ca (c_ad G a t n) t' n') = (t', n')
  rw [h2, c_ad_o]
  · exact e
  · intro q
    rw [q] at e
    rw [e] at ha
    exact h0 ha
theorem LC.ad (hL : LC m G P R) (ha : (co G a).1 = 0) (hn : ∀ b, co G b ≠ (t, n)) (hK : am_K m a = ckd t) (hl : am_L m a = cln P R t) (h1 : 1 ≤ a) (h2 : a ≤ am_n m) (hr : ∀ j t' n', crf P R t n j = some (t', n') → am_R m a j = ca G t' n' ∧ cx G t' n') : LC m (c_ad G a t n) P R := by
  refine ⟨fun b hb => ?_, (hL.2.1.ad ha hn (by decide)).1, fun t1 n1 j t' n' he hc => ?_, hL.2.2.2⟩
  · by_cases e : b = a
    · subst e
      rw [c_ad_s]
      exact ⟨c_ad_a, hK, hl, h1, h2⟩
    · rw [c_ad_o e] at hb ⊢
      obtain ⟨b1, b2⟩ := hL.1 b hb
      refine ⟨?_, b2⟩
      rw [c_ad_b]
      · exact b1
      · rintro ⟨q1, q2⟩
        exact hn b (Prod.ext q1 q2)
  · have ht' := (crf_0 hc).1
    by_cases e : t1 = t ∧ n1 = n
    · obtain ⟨rfl, rfl⟩ := e
      obtain ⟨r1, r2⟩ := hr j t' n' hc
      obtain ⟨r3, r4⟩ := r2.ad ha hn ht'
      rw [c_ad_a, r4]
      exact ⟨r1, r3⟩
    · have e1 : ca (c_ad G a t n) t1 n1 = ca G t1 n1 := c_ad_b e
      have he' : cx G t1 n1 := by
        have h3 : co (c_ad G a t n) (ca (c_ad G a t n) t1 n1) = (t1, n1) := he
        rw [e1] at h3
        by_cases q : ca G t1 n1 = a
        · rw [q, c_ad_s] at h3
          exact absurd ⟨(congrArg Prod.fst h3).symm, (congrArg Prod.snd h3).symm⟩ e
        · rw [c_ad_o q] at h3
          exact h3
      obtain ⟨r1, r2⟩ := hL.2.2.1 t1 n1 j t' n' he' hc
      obtain ⟨r3, r4⟩ := r2.ad ha hn ht'
      rw [e1, r4]
      exact ⟨r1, r3⟩
theorem c_ov_ad {α : Type} {cv : Nat → Nat → Nat → Option (Nat × Nat)} {ci : Nat × Nat → Nat × Nat × Nat} {u v : Nat × Nat → α} {I : Nat → Nat → α} (ha : (co G a).1 = 0) (hn : ∀ b, co G b ≠ (t, n)) (h0 : ∀ n j, cv 0 n j = none) (hinv : ∀ t n j q, cv t n j = some q → ci q = (t, n, j)) (h1 : ∀ j q, cv t n j = some q → v q = I a j) (h2 : ∀ q, (ci q).1 ≠ 0 → ¬ ((ci q).1 = t ∧ (ci q).2.1 = n) → v q = u q) : c_ov G.1 cv u I = c_ov (c_ad G a t n).1 cv v I := by
  funext b j
  by_cases e : b = a
  · subst e
    have e1 : cv (G.1 b).1 (G.1 b).2 j = none := by rw [show (G.1 b).1 = 0 from ha]; exact h0 _ _
    have e2 : (c_ad G b t n).1 b = (t, n) := if_pos rfl
    rw [c_ov_n e1]
    cases hq : cv t n j with
    | none => rw [c_ov_n (by rw [e2]; exact hq)]
    | some q =>
      rw [c_ov_s (q := q) (by rw [e2]; exact hq)]
      exact (h1 j q hq).symm
  · have e2 : (c_ad G a t n).1 b = G.1 b := if_neg e
    cases hq : cv (G.1 b).1 (G.1 b).2 j with
    | none => rw [c_ov_n hq, c_ov_n (by rw [e2]; exact hq)]
    | some q =>
      rw [c_ov_s hq, c_ov_s (q := q) (by rw [e2]; exact hq)]
      refine (h2 q ?_ ?_).symm
      · rw [hinv _ _ _ _ hq]
        intro q0
        have q0 : (G.1 b).1 = 0 := q0
        rw [q0, h0] at hq
        cases hq
      · rw [hinv _ _ _ _ hq]
        rintro ⟨q1, q2⟩
        exact hn b (Prod.ext q1 q2)
theorem cm_ad (ha : (co G a).1 = 0) (hn : ∀ b, co G b ≠ (t, n)) (hI : ∀ j q, cvI t n j = some q → yI Y F q = am_I m a j) (hJ : ∀ j q, cvJ t n j = some q → yJ Y F q = am_J m a j) (h2 : ∀ q, (ciI q).1 ≠ 0 → ¬ ((ciI q).1 = t ∧ (ciI q).2.1 = n) → yI Y F q = yI X E q) (h3 : ∀ q, (ciJ q).1 ≠ 0 → ¬ ((ciJ q).1 = t ∧ (ciJ q).2.1 = n) → yJ Y F q = yJ X E q) : cm m G X E = cm m (c_ad G a t n) Y F := by
  show (m.1, m.2.1, m.2.2.1, c_ov G.1 cvI (yI X E) m.2.2.2.1, c_ov G.1 cvJ (yJ X E) m.2.2.2.2.1, m.2.2.2.2.2) = (m.1, m.2.1, m.2.2.1, c_ov (c_ad G a t n).1 cvI (yI Y F) m.2.2.2.1, c_ov (c_ad G a t n).1 cvJ (yJ Y F) m.2.2.2.2.1, m.2.2.2.2.2)
  rw [c_ov_ad (I := m.2.2.2.1) ha hn cvI_0 (fun _ _ _ _ h => cvI_inv h) hI h2, c_ov_ad (I := m.2.2.2.2.1) ha hn cvJ_0 (fun _ _ _ _ h => cvJ_inv h) hJ h3]
theorem c_ov_vis {α : Type} {cv : Nat → Nat → Nat → Option (Nat × Nat)} {ci : Nat × Nat → Nat × Nat × Nat} {u v : Nat × Nat → α} {I : Nat → Nat → α} (hn : ∀ b, co G b ≠ (t, n)) (h0 : ∀ n j, cv 0 n j = none) (hinv : ∀ t n j q, cv t n j = some q → ci q = (t, n, j)) (h2 : ∀ q, (ci q).1 ≠ 0 → ¬ ((ci q).1 = t ∧ (ci q).2.1 = n) → v q = u q) : c_ov G.1 cv u I = c_ov G.1 cv v I := by
  funext b j
  cases hq : cv (G.1 b).1 (G.1 b).2 j with
  | none => rw [c_ov_n hq, c_ov_n hq]
  | some q =>
    rw [c_ov_s hq, c_ov_s hq]
    refine (h2 q ?_ ?_).symm
    · rw [hinv _ _ _ _ hq]
      intro q0
      have q0 : (G.1 b).1 = 0 := q0
      rw [q0, h0] at hq
      cases hq
    · rw [hinv _ _ _ _ hq]
      rintro ⟨q1, q2⟩
      exact hn b (Prod.ext q1 q2)
theorem cm_vis (hn : ∀ b, co G b ≠ (t, n)) (h2 : ∀ q, (ciI q).1 ≠ 0 → ¬ ((ciI q).1 = t ∧ (ciI q).2.1 = n) → yI Y F q = yI X E q) (h3 : ∀ q, (ciJ q).1 ≠ 0 → ¬ ((ciJ q).1 = t ∧ (ciJ q).2.1 = n) → yJ Y F q = yJ X E q) : cm m G X E = cm m G Y F := by
  show (m.1, m.2.1, m.2.2.1, c_ov G.1 cvI (yI X E) m.2.2.2.1, c_ov G.1 cvJ (yJ X E) m.2.2.2.2.1, m.2.2.2.2.2) = (m.1, m.2.1, m.2.2.1, c_ov G.1 cvI (yI Y F) m.2.2.2.1, c_ov G.1 cvJ (yJ Y F) m.2.2.2.2.1, m.2.2.2.2.2)
  rw [c_ov_vis (I := m.2.2.2.1) (u := yI X E) (v := yI Y F) hn cvI_0 (fun _ _ _ _ h => cvI_inv h) h2, c_ov_vis (I := m.2.2.2.2.1) (u := yJ X E) (v := yJ Y F) hn cvJ_0 (fun _ _ _ _ h => cvJ_inv h) h3]
theorem xU_comm (X : ms_X) {o o' i i' : Nat} (v v' : Int32) (h : o ≠ o') : xU (xU X o i v) o' i' v' = xU (xU X o' i' v') o i v := by
  refine Prod.ext ?_ rfl
  funext b j
  show (if b = o' ∧ j = i' then v' else if b = o ∧ j = i then v else X.1 b j) = (if b = o ∧ j = i then v else if b = o' ∧ j = i' then v' else X.1 b j)
  repeat' split
  all_goals first | rfl | omega
end
