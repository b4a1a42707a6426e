/-! the tables after a command -/
section
variable {m : am_Mem} {G : cg_G} {X Y E : ms_X} {P R N T s k p e : Nat} {kd it cu am : Int32}
theorem x_nd_cg {q : Nat} (h1 : Y.1 19 s = X.1 19 s) (h2 : Y.1 21 (3 * s + q) = X.1 21 (3 * s + q)) (h3 : Y.1 22 (3 * s + q) = X.1 22 (3 * s + q)) : x_nd Y s q = x_nd X s q := by
  unfold x_nd
  rw [h1, h2, h3]
theorem x_ndN_U (X : ms_X) (s k : Nat) {o i : Nat} (v : Int32) (h7 : o ≠ 7) (h19 : o ≠ 19) (h21 : o ≠ 21) (h22 : o ≠ 22) : ∀ n, x_ndN (xU X o i v) s k n = xU (x_ndN X s k n) o i v
  | 0 => rfl
  | n + 1 => by
    show xU (x_ndN (xU X o i v) s k n) 7 (3 * k + n) (x_nd (x_ndN (xU X o i v) s k n) s n) = xU (xU (x_ndN X s k n) 7 (3 * k + n) (x_nd (x_ndN X s k n) s n)) o i v
    rw [x_ndN_U X s k v h7 h19 h21 h22 n, x_nd_cg (X := x_ndN X s k n) (Y := xU (x_ndN X s k n) o i v) (xU_o _ _ (Ne.symm h19)) (xU_o _ _ (Ne.symm h21)) (xU_o _ _ (Ne.symm h22)), xU_comm _ _ _ h7]
theorem x_ndN_7 (X : ms_X) (s k : Nat) {k' q : Nat} (hq : q < 3) : ∀ n, n ≤ 3 → (x_ndN X s k n).1 7 (3 * k' + q) = if k' = k ∧ q < n then x_nd X s q else X.1 7 (3 * k' + q)
  | 0, _ => (if_neg (by omega)).symm
  | n + 1, hn => by
    have ih := x_ndN_7 X s k (k' := k') hq n (by omega)
    show (xU (x_ndN X s k n) 7 (3 * k + n) (x_nd (x_ndN X s k n) s n)).1 7 (3 * k' + q) = _
    by_cases e : k' = k ∧ q = n
    · obtain ⟨rfl, rfl⟩ := e
      rw [xU_s, if_pos ⟨rfl, by omega⟩]
      exact x_nd_cg (x_ndN_o _ _ _ (by decide) _) (x_ndN_o _ _ _ (by decide) _) (x_ndN_o _ _ _ (by decide) _)
    · rw [xU_j _ _ (by omega), ih]
      by_cases e2 : k' = k ∧ q < n
      · rw [if_pos e2, if_pos ⟨e2.1, by omega⟩]
      · rw [if_neg e2, if_neg (by omega)]
theorem x_ndN_J (X : ms_X) (s k : Nat) : ∀ n, (x_ndN X s k n).2 = X.2
  | 0 => rfl
  | n + 1 => x_ndN_J X s k n
theorem x_nd_0 {q : Nat} (h1 : X.1 21 (3 * s + q) = 0) (h2 : X.1 22 (3 * s + q) = 0) : x_nd X s q = 0 := by
  simp only [x_nd, h1, h2]
  repeat' split
  all_goals rfl
theorem x_nd_le (h : x_SW X) (hs : s < 8) {q : Nat} (hq : q < 3) : ∃ v, x_nd X s q = nI v ∧ v ≤ nt (X.1 1 q) := by
  obtain ⟨⟨b1, b2⟩, b3, b4⟩ := h s q hs hq
  have ha : ∃ v, (if X.1 19 s &&& 4 = 0 then 0 else X.1 22 (3 * s + q)) = nI v ∧ v ≤ nt (X.1 1 q) := by
    split
    · exact ⟨0, rfl, Nat.zero_le _⟩
    · exact ⟨_, b1.2, b2⟩
  show ∃ v, (if X.1 19 s &&& 8 = 0 then (if X.1 19 s &&& 4 = 0 then 0 else X.1 22 (3 * s + q)) else if (if X.1 19 s &&& 4 = 0 then 0 else X.1 22 (3 * s + q)) ≤ X.1 21 (3 * s + q) then X.1 21 (3 * s + q) else (if X.1 19 s &&& 4 = 0 then 0 else X.1 22 (3 * s + q))) = nI v ∧ v ≤ nt (X.1 1 q)
  generalize (if X.1 19 s &&& 4 = 0 then 0 else X.1 22 (3 * s + q)) = z at ha ⊢
  split
  · exact ha
  · split
    · exact ⟨_, b3.2, b4⟩
    · exact ha
theorem x_cmd2_o (X : ms_X) {a j : Nat} (h1 : a ≠ 1) (h3 : a ≠ 3) (h4 : a ≠ 4) (h5 : a ≠ 5) (h6 : a ≠ 6) (h7 : a ≠ 7) (h21 : a ≠ 21) : (x_cmd2 X s p e kd it cu am).1 a j = X.1 a j := by
  unfold x_cmd2
  rw [xU_o _ _ h21, x_ndN_o _ _ _ h7, x_cmd0_o _ _ _ _ _ _ _ _ h1 h3 h4 h5 h6]
theorem x_cmd2_1 (X : ms_X) (q : Nat) : (x_cmd2 X s p e kd it cu am).1 1 q = if q = p then nI (e + 1) else X.1 1 q := by
  unfold x_cmd2 x_cmd0
  rw [xU_o _ _ (by decide), x_ndN_o _ _ _ (by decide), xU_o _ _ (by decide), xU_o _ _ (by decide), xU_o _ _ (by decide), xU_o _ _ (by decide)]
  split
  · rename_i e1; subst e1; exact xU_s _ _ _ _
  · rename_i e1; exact xU_j _ _ e1
theorem x_cmd2_3 (X : ms_X) (q : Nat) : (x_cmd2 X s p e kd it cu am).1 3 q = if q = 401 * p + (e + 1) then kd else X.1 3 q := by
  unfold x_cmd2 x_cmd0
  rw [xU_o _ _ (by decide), x_ndN_o _ _ _ (by decide), xU_o _ _ (by decide), xU_o _ _ (by decide), xU_o _ _ (by decide)]
  split
  · rename_i e1; subst e1; exact xU_s _ _ _ _
  · rename_i e1; rw [xU_j _ _ e1]; exact xU_o _ _ (by decide)
theorem x_cmd2_4 (X : ms_X) (q : Nat) : (x_cmd2 X s p e kd it cu am).1 4 q = if q = 401 * p + (e + 1) then it else X.1 4 q := by
  unfold x_cmd2 x_cmd0
  rw [xU_o _ _ (by decide), x_ndN_o _ _ _ (by decide), xU_o _ _ (by decide), xU_o _ _ (by decide)]
  split
  · rename_i e1; subst e1; exact xU_s _ _ _ _
  · rename_i e1; rw [xU_j _ _ e1, xU_o _ _ (by decide)]; exact xU_o _ _ (by decide)
theorem x_cmd2_5 (X : ms_X) (q : Nat) : (x_cmd2 X s p e kd it cu am).1 5 q = if q = 401 * p + (e + 1) then cu else X.1 5 q := by
  unfold x_cmd2 x_cmd0
  rw [xU_o _ _ (by decide), x_ndN_o _ _ _ (by decide), xU_o _ _ (by decide)]
  split
  · rename_i e1; subst e1; exact xU_s _ _ _ _
  · rename_i e1; rw [xU_j _ _ e1, xU_o _ _ (by decide), xU_o _ _ (by decide)]; exact xU_o _ _ (by decide)
theorem x_cmd2_6 (X : ms_X) (q : Nat) : (x_cmd2 X s p e kd it cu am).1 6 q = if q = 401 * p + (e + 1) then am else X.1 6 q := by
  unfold x_cmd2 x_cmd0
  rw [xU_o _ _ (by decide), x_ndN_o _ _ _ (by decide)]
  split
  · rename_i e1; subst e1; exact xU_s _ _ _ _
  · rename_i e1; rw [xU_j _ _ e1, xU_o _ _ (by decide), xU_o _ _ (by decide), xU_o _ _ (by decide)]; exact xU_o _ _ (by decide)
theorem x_cmd2_7 (X : ms_X) {k q : Nat} (hq : q < 3) : (x_cmd2 X s p e kd it cu am).1 7 (3 * k + q) = if k = 401 * p + (e + 1) then x_nd X s q else X.1 7 (3 * k + q) := by
  unfold x_cmd2
  rw [xU_o _ _ (by decide), x_ndN_7 _ _ _ hq 3 (Nat.le_refl _), x_nd_cg (X := X) (x_cmd0_o _ _ _ _ _ _ _ _ (by decide) (by decide) (by decide) (by decide) (by decide)) (x_cmd0_o _ _ _ _ _ _ _ _ (by decide) (by decide) (by decide) (by decide) (by decide)) (x_cmd0_o _ _ _ _ _ _ _ _ (by decide) (by decide) (by decide) (by decide) (by decide)), x_cmd0_o _ _ _ _ _ _ _ _ (by decide) (by decide) (by decide) (by decide) (by decide)]
  by_cases h : k = 401 * p + (e + 1)
  · rw [if_pos ⟨h, hq⟩, if_pos h]
  · rw [if_neg (fun q => h q.1), if_neg h]
theorem x_cmd2_21 (X : ms_X) (j : Nat) : (x_cmd2 X s p e kd it cu am).1 21 j = if j = 3 * s + p then nI (e + 1) else X.1 21 j := by
  unfold x_cmd2
  split
  · rename_i e1; subst e1; exact xU_s _ _ _ _
  · rename_i e1
    rw [xU_j _ _ e1, x_ndN_o _ _ _ (by decide)]
    exact x_cmd0_o _ _ _ _ _ _ _ _ (by decide) (by decide) (by decide) (by decide) (by decide)
theorem x_cmd2_1n (he : X.1 1 p = nI e) (he4 : e < 400) (q : Nat) : nt ((x_cmd2 X s p e kd it cu am).1 1 q) = nt (X.1 1 q) + (if q = p then 1 else 0) := by
  rw [x_cmd2_1]
  split
  · rename_i e1
    subst e1
    rw [he, nt_nI (by omega), nt_nI (by omega)]
  · rfl
theorem x_Wf.cmd (h : x_Wf X P R N) (hp : p < P) (he : X.1 1 p = nI e) (he4 : e < 400) (h4 : x_ix it 30) (h5 : x_ix cu 10) : x_Wf (x_cmd2 X s p e kd it cu am) P R N := by
  obtain ⟨a1, a2, a3, a4, a5, a6, a7⟩ := h
  have hP3 := a1.2.2.2.1
  have het : nt (X.1 1 p) = e := by rw [he, nt_nI (by omega)]
  have o : ∀ a j, a ≠ 1 → a ≠ 3 → a ≠ 4 → a ≠ 5 → a ≠ 6 → a ≠ 7 → a ≠ 21 → (x_cmd2 X s p e kd it cu am).1 a j = X.1 a j := fun a j b1 b2 b3 b4 b5 b6 b7 => x_cmd2_o X b1 b2 b3 b4 b5 b6 b7
  refine ⟨a1.cg (o 0 0 (by decide) (by decide) (by decide) (by decide) (by decide) (by decide) (by decide)) (o 0 1 (by decide) (by decide) (by decide) (by decide) (by decide) (by decide) (by decide)), a2.cg (o 0 26 (by decide) (by decide) (by decide) (by decide) (by decide) (by decide) (by decide)) (fun k => o 24 k (by decide) (by decide) (by decide) (by decide) (by decide) (by decide) (by decide)) (fun k => o 29 k (by decide) (by decide) (by decide) (by decide) (by decide) (by decide) (by decide)) (fun k => o 30 k (by decide) (by decide) (by decide) (by decide) (by decide) (by decide) (by decide)), fun q hq => ?_, fun r q hr hq => ?_, fun q i hq h2 h3 => ?_, fun r hr => ?_, fun s' hs => ?_⟩
  · rw [x_cmd2_1]
    split
    · exact x_ix_nI (by omega) (by omega)
    · exact a3 q hq
  · rw [o 15 _ (by decide) (by decide) (by decide) (by decide) (by decide) (by decide) (by decide), x_cmd2_1n he he4]
    obtain ⟨b1, b2⟩ := a4 r q hr hq
    exact ⟨b1, by omega⟩
  · rw [x_cmd2_1n he he4] at h3
    have b := (a3 q hq).1
    rw [x_cmd2_4, x_cmd2_5]
    by_cases c : 401 * q + i = 401 * p + (e + 1)
    · rw [if_pos c, if_pos c]
      exact ⟨h4, h5⟩
    · rw [if_neg c, if_neg c]
      refine a5 q i hq h2 ?_
      split at h3
      · rename_i e1; subst e1; omega
      · exact h3
  · rw [o 17 _ (by decide) (by decide) (by decide) (by decide) (by decide) (by decide) (by decide), o 16 _ (by decide) (by decide) (by decide) (by decide) (by decide) (by decide) (by decide), o 18 _ (by decide) (by decide) (by decide) (by decide) (by decide) (by decide) (by decide)]
    exact a6 r hr
  · rw [o 20 _ (by decide) (by decide) (by decide) (by decide) (by decide) (by decide) (by decide)]
    exact a7 s' hs
theorem IA.cmd (h : IA X E P R N T) (hB : IB X E P N) (hs : s < 8) (hp : p < P) (he : X.1 1 p = nI e) (he4 : e < 400) (h3 : x_ix kd 5) (h4 : x_ix it 30) (h5 : x_ix cu 10) (h6 : x_rg am 1 1000 = true) : IA (x_cmd2 X s p e kd it cu am) E P R N T := by
  have hW := h.1.cmd (s := s) (kd := kd) (am := am) hp he he4 h4 h5
  have hP3 := h.1.1.2.2.2.1
  have hend := fun q hq => (h.1.2.2.1 q hq).1
  have het : nt (X.1 1 p) = e := by rw [he, nt_nI (by omega)]
  obtain ⟨a1, a2, a3, a4, a5, a6, a7, a8, a9⟩ := h
  have o : ∀ a j, a ≠ 1 → a ≠ 3 → a ≠ 4 → a ≠ 5 → a ≠ 6 → a ≠ 7 → a ≠ 21 → (x_cmd2 X s p e kd it cu am).1 a j = X.1 a j := fun a j b1 b2 b3 b4 b5 b6 b7 => x_cmd2_o X b1 b2 b3 b4 b5 b6 b7
  refine ⟨hW, fun q hq => ?_, fun r q hr hq => ?_, fun q hq hq3 => ?_, fun q i hq g1 g2 => ?_, fun r i hr hi => ?_, fun k hk => ?_, ?_, a9⟩
  · rw [o 2 _ (by decide) (by decide) (by decide) (by decide) (by decide) (by decide) (by decide)]; exact a2 q hq
  · rw [o 2 _ (by decide) (by decide) (by decide) (by decide) (by decide) (by decide) (by decide), o 15 _ (by decide) (by decide) (by decide) (by decide) (by decide) (by decide) (by decide), o 15 _ (by decide) (by decide) (by decide) (by decide) (by decide) (by decide) (by decide)]; exact a3 r q hr hq
  · obtain ⟨b1, b2, b3⟩ := a4 q hq hq3
    refine ⟨?_, fun r hr => ?_, fun s' hs' => ?_⟩
    · rw [x_cmd2_1, if_neg (by omega)]; exact b1
    · rw [o 15 _ (by decide) (by decide) (by decide) (by decide) (by decide) (by decide) (by decide)]; exact b2 r hr
    · rw [x_cmd2_21, if_neg (by omega)]; exact b3 s' hs'
  · rw [x_cmd2_1n he he4] at g2
    have b := hend q (by omega)
    rw [x_cmd2_3, x_cmd2_6]
    by_cases c : 401 * q + i = 401 * p + (e + 1)
    · rw [if_pos c, if_pos c]
      refine ⟨h3, h6, fun q' hq' hq3 => ?_⟩
      rw [x_cmd2_7 _ hq3, if_pos c]
      exact x_nd_0 ((a4 q' hq' hq3).2.2 s hs) (hB.1 s q' hs hq' hq3)
    · rw [if_neg c, if_neg c]
      have g3 : i ≤ nt (X.1 1 q) := by
        split at g2
        · rename_i e1; subst e1; omega
        · exact g2
      obtain ⟨b1, b2, b3⟩ := a5 q i hq g1 g3
      refine ⟨b1, b2, fun q' hq' hq3 => ?_⟩
      rw [x_cmd2_7 _ hq3, if_neg c]
      exact b3 q' hq' hq3
  · rw [o 10 _ (by decide) (by decide) (by decide) (by decide) (by decide) (by decide) (by decide), o 15 _ (by decide) (by decide) (by decide) (by decide) (by decide) (by decide) (by decide), o 15 _ (by decide) (by decide) (by decide) (by decide) (by decide) (by decide) (by decide), o 15 _ (by decide) (by decide) (by decide) (by decide) (by decide) (by decide) (by decide)]
    exact a6 r i hr hi
  · obtain ⟨b1, a, b, b2, b3, b4, b5, b6⟩ := a7 k hk
    refine ⟨?_, a, b, ?_, ?_, b4, ?_, b6⟩
    · rw [o 24 _ (by decide) (by decide) (by decide) (by decide) (by decide) (by decide) (by decide)]
      exact b1.cg (fun a j ho => o a j (by omega) (by omega) (by omega) (by omega) (by omega) (by omega) (by omega)) rfl
    · rw [o 28 _ (by decide) (by decide) (by decide) (by decide) (by decide) (by decide) (by decide)]; exact b2
    · rw [o 27 _ (by decide) (by decide) (by decide) (by decide) (by decide) (by decide) (by decide)]; exact b3
    · rw [o 0 _ (by decide) (by decide) (by decide) (by decide) (by decide) (by decide) (by decide)]; exact b5
  · rw [o 0 _ (by decide) (by decide) (by decide) (by decide) (by decide) (by decide) (by decide)]; exact a8
theorem IB.cmd (h : IB X E P N) (hp : p < 3) (he : X.1 1 p = nI e) (he4 : e < 400) : IB (x_cmd2 X s p e kd it cu am) E P N := by
  obtain ⟨a1, a2, a3, a4, a5, a6, a7⟩ := h
  have o22 : ∀ j, (x_cmd2 X s p e kd it cu am).1 22 j = X.1 22 j := fun j => x_cmd2_o X (by decide) (by decide) (by decide) (by decide) (by decide) (by decide) (by decide)
  have o23 : ∀ j, (x_cmd2 X s p e kd it cu am).1 23 j = X.1 23 j := fun j => x_cmd2_o X (by decide) (by decide) (by decide) (by decide) (by decide) (by decide) (by decide)
  have w : ∀ v, x_wtN (x_cmd2 X s p e kd it cu am) v N = x_wtN X v N := fun v => wt_cg N (fun k _ => by rw [o23])
  refine ⟨fun s q hs hq hq3 => by rw [o22]; exact a1 s q hs hq hq3, fun k hk => by rw [o23]; exact a2 k hk, ?_, ?_, ?_, ?_, fun s' q hs' hq => ?_⟩
  · rw [w]; exact a3
  · rw [w]; exact a4
  · rw [w]; exact a5
  · rw [w]; exact a6
  · obtain ⟨⟨b1, b2⟩, b3, b4⟩ := a7 s' q hs' hq
    rw [o22, x_cmd2_1n he he4, x_cmd2_21]
    refine ⟨⟨b1, by omega⟩, ?_⟩
    by_cases c : 3 * s' + q = 3 * s + p
    · have e1 : q = p := by omega
      subst e1
      rw [if_pos c, if_pos rfl, he, nt_nI (by omega), nt_nI (by omega)]
      exact ⟨x_ix_nI (by omega) (by omega), Nat.le_refl _⟩
    · rw [if_neg c]
      exact ⟨b3, by omega⟩
set_option maxHeartbeats 1000000 in
theorem INV.cmd (h : INV m G X E P R N T) {a b : Nat} (hs : s < 8) (hp : p < P) (he : X.1 1 p = nI e) (he4 : e < 400) (h3 : x_ix kd 5) (h4 : x_ix it 30) (h5 : x_ix cu 10) (h6 : x_rg am 1 1000 = true) (ha : (co G a).1 = 0) (hb : (co G b).1 = 0) (hab : a ≠ b) (f19 : ∀ c, co G c ≠ (19, 401 * p + (e + 1))) (f18 : ∀ c, co G c ≠ (18, 401 * p + (e + 1))) (hLC : LC m (c_ad (c_ad G b 19 (401 * p + (e + 1))) a 18 (401 * p + (e + 1))) P R) :
    INV (c_sR m (ca G 3 p) (fun i => if i = e then a else am_R m (ca G 3 p) i)) (c_ad (c_ad G b 19 (401 * p + (e + 1))) a 18 (401 * p + (e + 1))) (x_cmd2 X s p e kd it cu am) E P R N T := by
  have hL := h.1
  have hP3 := hL.2.2.2
  have hend := fun q hq => (h.2.2.1.1.2.2.1 q hq).1
  have het : nt (X.1 1 p) = e := by rw [he, nt_nI (by omega)]
  have ha1 : (co (c_ad G b 19 (401 * p + (e + 1))) a).1 = 0 := by rw [c_ad_o hab]; exact ha
  have f18' : ∀ c, co (c_ad G b 19 (401 * p + (e + 1))) c ≠ (18, 401 * p + (e + 1)) := by
    intro c
    by_cases q : c = b
    · subst q
      rw [c_ad_s]
      exact fun z => absurd (show 19 = 18 from congrArg Prod.fst z) (by decide)
    · rw [c_ad_o q]; exact f18 c
  have tr : ∀ {t' n'}, cx G t' n' → t' ≠ 0 → cx (c_ad (c_ad G b 19 (401 * p + (e + 1))) a 18 (401 * p + (e + 1))) t' n' ∧ ca (c_ad (c_ad G b 19 (401 * p + (e + 1))) a 18 (401 * p + (e + 1))) t' n' = ca G t' n' := by
    intro t' n' hc h0
    obtain ⟨r1, r2⟩ := hc.ad hb f19 h0
    obtain ⟨r3, r4⟩ := r1.ad ha1 f18' h0
    exact ⟨r3, r4.trans r2⟩
  have e3 := hL.e3 hp
  refine ⟨?_, ⟨fun k hk => ?_, fun q i hq g1 g2 => ?_, fun c => ?_⟩, h.2.2.1.cmd h.2.2.2.1 hs hp he he4 h3 h4 h5 h6, h.2.2.2.1.cmd (by omega) he he4, fun k hk hs => ?_⟩
  · rw [← (tr e3 (by decide)).2]
    exact hLC.sRg (tr e3 (by decide)).1 (fun _ => rfl) _
  · obtain ⟨b1, b2⟩ := h.2.1.1 k hk
    rw [(tr hL.e23 (by decide)).2, (tr b2 (by decide)).2, c_sR_Ro (fun q => by have := (cx_inj hL.e23 e3 q).1; omega)]
    exact ⟨b1, (tr b2 (by decide)).1⟩
  · rw [x_cmd2_o X (by decide) (by decide) (by decide) (by decide) (by decide) (by decide) (by decide)] at g1
    rw [x_cmd2_1n he he4] at g2
    rw [(tr (hL.e3 hq) (by decide)).2]
    by_cases c : q = p
    · subst c
      rw [if_pos rfl] at g2
      rw [c_sR_R]
      by_cases c2 : i = e + 1
      · subst c2
        rw [if_pos (by omega), c_ad_a]
        exact ⟨rfl, c_ad_x⟩
      · obtain ⟨b1, b2⟩ := h.2.1.2.1 q i hq g1 (by omega)
        rw [if_neg (by omega), (tr b2 (by decide)).2]
        exact ⟨b1, (tr b2 (by decide)).1⟩
    · rw [if_neg c] at g2
      obtain ⟨b1, b2⟩ := h.2.1.2.1 q i hq g1 g2
      rw [c_sR_Ro (fun z => c (cx_inj (hL.e3 hq) e3 z).2), (tr b2 (by decide)).2]
      exact ⟨b1, (tr b2 (by decide)).1⟩
  · have nw : ∃ p' q, p' < P ∧ 401 * p + (e + 1) = 401 * p' + q ∧ 1 ≤ q ∧ q ≤ nt ((x_cmd2 X s p e kd it cu am).1 1 p') := ⟨p, e + 1, hp, rfl, by omega, by rw [x_cmd2_1n he he4, if_pos rfl]; omega⟩
    by_cases c1 : c = a
    · subst c1
      rw [c_ad_s]
      exact ⟨fun z => absurd (show 18 = 17 from z) (by decide), fun _ => nw⟩
    · rw [c_ad_o c1]
      by_cases c2 : c = b
      · subst c2
        rw [c_ad_s]
        exact ⟨fun z => absurd (show 19 = 17 from z) (by decide), fun _ => nw⟩
      · rw [c_ad_o c2]
        refine ⟨(h.2.1.2.2 c).1, fun z => ?_⟩
        obtain ⟨p', q, b1, b2, b3, b4⟩ := (h.2.1.2.2 c).2 z
        exact ⟨p', q, b1, b2, b3, by rw [x_cmd2_1n he he4]; omega⟩
  · have o23 : ∀ j, (x_cmd2 X s p e kd it cu am).1 23 j = X.1 23 j := fun j => x_cmd2_o X (by decide) (by decide) (by decide) (by decide) (by decide) (by decide) (by decide)
    have h17 := (h.2.1.1 k hk).2
    rw [(tr hL.w (by decide)).2, (tr h17 (by decide)).2, c_sR_Ro (fun q => by have := (cx_inj hL.w e3 q).1; omega)]
    exact h.2.2.2.2.cg o23 k hk hs
end
