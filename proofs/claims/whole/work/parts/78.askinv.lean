/-! the tables after a read is asked -/
section
variable {m : am_Mem} {G : cg_G} {X Y E F : ms_X} {P R N T : Nat}
/-- as X, but for the rows of read N -/
def x_eqN (N : Nat) (X Y : ms_X) : Prop := (∀ o j, o < 24 → Y.1 o j = X.1 o j) ∧ (∀ o j, o ≠ 25 → j ≠ N → Y.1 o j = X.1 o j) ∧ ∀ k q, k ≠ N → q < 3 → Y.1 25 (3 * k + q) = X.1 25 (3 * k + q)
theorem x_nqN_25 (X : ms_X) (k : Nat) (t : Int64) {k' q : Nat} (hq : q < 3) : ∀ n, n ≤ 3 → (x_nqN X k t n).1 25 (3 * k' + q) = if k' = k ∧ q < n then x_pos t (nI q) else X.1 25 (3 * k' + q)
  | 0, _ => (if_neg (by omega)).symm
  | n + 1, hn => by
    have ih := x_nqN_25 X k t (k' := k') hq n (by omega)
    show (xU (x_nqN X k t n) 25 (3 * k + n) (x_pos t (nI n))).1 25 (3 * k' + q) = _
    by_cases e : k' = k ∧ q = n
    · obtain ⟨rfl, rfl⟩ := e
      rw [xU_s, if_pos ⟨rfl, by omega⟩]
    · rw [xU_j _ _ (by omega), ih]
      by_cases e2 : k' = k ∧ q < n
      · rw [if_pos e2, if_pos ⟨e2.1, by omega⟩]
      · rw [if_neg e2, if_neg (by omega)]
theorem x_nqN_J (X : ms_X) (k : Nat) (t : Int64) : ∀ n, (x_nqN X k t n).2 = X.2
  | 0 => rfl
  | n + 1 => x_nqN_J X k t n
section
variable {k s : Nat} {t : Int64} {b p kd a : Int32}
theorem x_ask0_25 {k' q : Nat} (hq : q < 3) : (x_ask0 X k s t b p kd a).1 25 (3 * k' + q) = if k' = k then x_pos t (nI q) else X.1 25 (3 * k' + q) := by
  unfold x_ask0
  rw [x_ask1_o _ _ _ _ _ _ (by decide) (by decide) (by decide) (by decide) (by decide) (by decide) (by decide), x_nqN_25 _ _ _ hq 3 (Nat.le_refl _), xU_o _ _ (by decide)]
  by_cases h : k' = k
  · rw [if_pos ⟨h, hq⟩, if_pos h]
  · rw [if_neg (fun z => h z.1), if_neg h]
theorem x_ask0_26 : (x_ask0 X k s t b p kd a).1 26 k = b := by
  unfold x_ask0 x_ask1
  rw [xU_o _ _ (by decide), xV_I, xV_I, xU_o _ _ (by decide), xU_o _ _ (by decide), xU_o _ _ (by decide), xU_o _ _ (by decide), xU_o _ _ (by decide), xU_s]
theorem x_ask0_27 : (x_ask0 X k s t b p kd a).1 27 k = p := by
  unfold x_ask0 x_ask1
  rw [xU_o _ _ (by decide), xV_I, xV_I, xU_o _ _ (by decide), xU_o _ _ (by decide), xU_o _ _ (by decide), xU_o _ _ (by decide), xU_s]
theorem x_ask0_28 : (x_ask0 X k s t b p kd a).1 28 k = X.1 0 3 := by
  unfold x_ask0 x_ask1
  rw [xU_o _ _ (by decide), xV_I, xV_I, xU_o _ _ (by decide), xU_o _ _ (by decide), xU_o _ _ (by decide), xU_s, xU_o _ _ (by decide), xU_o _ _ (by decide), x_nqN_o _ _ _ (by decide), xU_o _ _ (by decide)]
theorem x_ask0_31 : (x_ask0 X k s t b p kd a).1 31 k = -1 := by
  unfold x_ask0 x_ask1
  rw [xU_o _ _ (by decide), xV_I, xV_I, xU_s]
theorem x_ask0_34 : (x_ask0 X k s t b p kd a).1 34 k = -1 := by
  unfold x_ask0 x_ask1
  rw [xU_s]
theorem x_ask0_J : (x_ask0 X k s t b p kd a).2 = (xV (xV X 32 k 0) 33 k 0).2 := by
  unfold x_ask0 x_ask1
  show (fun o i => if o = 33 ∧ i = k then 0 else if o = 32 ∧ i = k then 0 else (x_nqN (xU X 24 k (nI s)) k t 3).2 o i) = _
  rw [x_nqN_J]
  rfl
theorem x_ask0_eq : x_eqN k X (x_ask0 X k s t b p kd a) := ⟨fun o j ho => x_ask0_o _ _ _ _ _ _ _ _ (by omega) (by omega) (by omega) (by omega) (by omega) (by omega) (by omega) (by omega) (by omega), fun o j ho hj => x_ask0_j _ _ _ _ _ _ _ _ hj ho, fun k' q hk hq => by rw [x_ask0_25 hq, if_neg hk]⟩
end
theorem IA.eqN (h : IA X E P R N T) (hq : x_eqN N X Y) : IA Y E P R N T := by
  obtain ⟨q1, q2, q3⟩ := hq
  obtain ⟨a1, a2, a3, a4, a5, a6, a7, a8, a9⟩ := h
  obtain ⟨c1, c2, c3, c4, c5, c6, c7⟩ := a1
  refine ⟨⟨c1.cg (q1 0 0 (by omega)) (q1 0 1 (by omega)), ⟨(q1 0 26 (by omega)).trans c2.1, c2.2.1, fun k hk => ?_⟩, fun p hp => ?_, fun r p hr hp => ?_, fun p i hp g1 g2 => ?_, fun r hr => ?_, fun s hs => ?_⟩, fun p hp => ?_, fun r p hr hp => ?_, fun q hq hq3 => ?_, fun p i hp g1 g2 => ?_, fun r i hr hi => ?_, fun k hk => ?_, ?_, a9⟩
  · rw [q2 24 k (by omega) (by omega), q2 29 k (by omega) (by omega), q2 30 k (by omega) (by omega)]; exact c2.2.2 k hk
  · rw [q1 1 _ (by omega)]; exact c3 p hp
  · rw [q1 15 _ (by omega), q1 1 _ (by omega)]; exact c4 r p hr hp
  · rw [q1 1 _ (by omega)] at g2
    rw [q1 4 _ (by omega), q1 5 _ (by omega)]; exact c5 p i hp g1 g2
  · rw [q1 17 _ (by omega), q1 16 _ (by omega), q1 18 _ (by omega)]; exact c6 r hr
  · rw [q1 20 _ (by omega)]; exact c7 s hs
  · rw [q1 2 _ (by omega)]; exact a2 p hp
  · rw [q1 2 _ (by omega), q1 15 _ (by omega), q1 15 _ (by omega)]; exact a3 r p hr hp
  · obtain ⟨b1, b2, b3⟩ := a4 q hq hq3
    exact ⟨by rw [q1 1 _ (by omega)]; exact b1, fun r hr => by rw [q1 15 _ (by omega)]; exact b2 r hr, fun s hs => by rw [q1 21 _ (by omega)]; exact b3 s hs⟩
  · rw [q1 1 _ (by omega)] at g2
    obtain ⟨b1, b2, b3⟩ := a5 p i hp g1 g2
    exact ⟨by rw [q1 3 _ (by omega)]; exact b1, by rw [q1 6 _ (by omega)]; exact b2, fun q hq hq3 => by rw [q1 7 _ (by omega)]; exact b3 q hq hq3⟩
  · rw [q1 10 _ (by omega), q1 15 _ (by omega), q1 15 _ (by omega), q1 15 _ (by omega)]; exact a6 r i hr hi
  · obtain ⟨b1, a, b, b2, b3, b4, b5, b6⟩ := a7 k hk
    obtain ⟨d1, d2, d3, d4, d5⟩ := b1
    refine ⟨⟨?_, ?_, fun q hq => ?_, ?_, ?_⟩, a, b, ?_, ?_, b4, ?_, b6⟩
    · rw [q2 24 k (by omega) (by omega)]; exact d1
    · rw [q2 24 k (by omega) (by omega)]; exact d2
    · rw [q3 k q (by omega) hq]; exact d3 q hq
    · rw [q2 26 k (by omega) (by omega)]; exact d4
    · rw [q2 29 k (by omega) (by omega), q2 30 k (by omega) (by omega)]; exact d5
    · rw [q2 28 k (by omega) (by omega)]; exact b2
    · rw [q2 27 k (by omega) (by omega)]; exact b3
    · rw [q1 0 _ (by omega)]; exact b5
  · rw [q1 0 _ (by omega)]; exact a8
theorem INV.eqN (h : INV m G X E P R N T) (hq : x_eqN N X Y) : INV m G Y E P R N T :=
  ⟨h.1, h.2.1.cg (fun j => hq.1 1 j (by omega)) (fun j => hq.1 2 j (by omega)), h.2.2.1.eqN hq, h.2.2.2.1.cg (fun j => hq.1 22 j (by omega)) (fun j => hq.1 23 j (by omega)) (fun _ => rfl) (fun j => hq.1 1 j (by omega)) (fun j => hq.1 21 j (by omega)), h.2.2.2.2.cg (fun j => hq.1 23 j (by omega))⟩
theorem IA.more (h : IA X E P R N T) (hN5 : N < 500) (h0 : ∀ j, j ≠ 26 → Y.1 0 j = X.1 0 j) (h26 : Y.1 0 26 = nI (N + 1)) (h1 : ∀ o j, o ≠ 0 → o ≠ 22 → o ≠ 23 → o ≠ 31 → o ≠ 34 → Y.1 o j = X.1 o j) (hF : ∀ k, k < N → F.1 1 k = E.1 1 k ∧ F.2 1 k = E.2 1 k)
    (hr : y_rd X F N (nt (X.1 24 N)) P) (hd : ∃ a b, X.1 28 N = nI a ∧ X.1 27 N = nI b ∧ b ≤ 1000 ∧ a ≤ nt (X.1 0 3) ∧ F.1 1 N = nI (a + b)) : IA Y F P R (N + 1) T := by
  have o : ∀ o j, o ≠ 0 ∧ o ≠ 22 ∧ o ≠ 23 ∧ o ≠ 31 ∧ o ≠ 34 → Y.1 o j = X.1 o j := fun o j q => h1 o j q.1 q.2.1 q.2.2.1 q.2.2.2.1 q.2.2.2.2
  obtain ⟨a1, a2, a3, a4, a5, a6, a7, a8, a9⟩ := h
  obtain ⟨c1, c2, c3, c4, c5, c6, c7⟩ := a1
  have rd : ∀ k, k < N + 1 → y_rd X F k (nt (X.1 24 k)) P := by
    intro k hk
    by_cases e : k = N
    · subst e; exact hr
    · exact (a7 k (by omega)).1.cg (fun _ _ _ => rfl) (hF k (by omega)).2
  refine ⟨⟨c1.cg (h0 0 (by omega)) (h0 1 (by omega)), ⟨h26, by omega, fun k hk => ?_⟩, fun p hp => ?_, fun r p hr hp => ?_, fun p i hp g1 g2 => ?_, fun r hr => ?_, fun s hs => ?_⟩, fun p hp => ?_, fun r p hr hp => ?_, fun q hq hq3 => ?_, fun p i hp g1 g2 => ?_, fun r i hr hi => ?_, fun k hk => ?_, ?_, a9⟩
  · rw [o 24 k (by omega), o 29 k (by omega), o 30 k (by omega)]
    obtain ⟨d1, d2, d3, d4, d5⟩ := rd k hk
    exact ⟨⟨d1, d2⟩, x_isQ_qI d5⟩
  · rw [o 1 _ (by omega)]; exact c3 p hp
  · rw [o 15 _ (by omega), o 1 _ (by omega)]; exact c4 r p hr hp
  · rw [o 1 _ (by omega)] at g2
    rw [o 4 _ (by omega), o 5 _ (by omega)]; exact c5 p i hp g1 g2
  · rw [o 17 _ (by omega), o 16 _ (by omega), o 18 _ (by omega)]; exact c6 r hr
  · rw [o 20 _ (by omega)]; exact c7 s hs
  · rw [o 2 _ (by omega)]; exact a2 p hp
  · rw [o 2 _ (by omega), o 15 _ (by omega), o 15 _ (by omega)]; exact a3 r p hr hp
  · obtain ⟨b1, b2, b3⟩ := a4 q hq hq3
    exact ⟨by rw [o 1 _ (by omega)]; exact b1, fun r hr => by rw [o 15 _ (by omega)]; exact b2 r hr, fun s hs => by rw [o 21 _ (by omega)]; exact b3 s hs⟩
  · rw [o 1 _ (by omega)] at g2
    obtain ⟨b1, b2, b3⟩ := a5 p i hp g1 g2
    exact ⟨by rw [o 3 _ (by omega)]; exact b1, by rw [o 6 _ (by omega)]; exact b2, fun q hq hq3 => by rw [o 7 _ (by omega)]; exact b3 q hq hq3⟩
  · rw [o 10 _ (by omega), o 15 _ (by omega), o 15 _ (by omega), o 15 _ (by omega)]; exact a6 r i hr hi
  · have e : ∃ a b, X.1 28 k = nI a ∧ X.1 27 k = nI b ∧ b ≤ 1000 ∧ a ≤ nt (X.1 0 3) ∧ F.1 1 k = nI (a + b) := by
      by_cases e : k = N
      · subst e; exact hd
      · obtain ⟨-, a, b, b2, b3, b4, b5, b6⟩ := a7 k (by omega)
        exact ⟨a, b, b2, b3, b4, b5, (hF k (by omega)).1.trans b6⟩
    rw [o 24 k (by omega), o 28 k (by omega), o 27 k (by omega), h0 3 (by omega)]
    exact ⟨(rd k hk).cg (fun o' j ho => o o' j (by omega)) rfl, e⟩
  · rw [h0 3 (by omega)]; exact a8
theorem wt_new {v w : Int32} (h : ∀ k, k < N → Y.1 23 k = X.1 23 k) (hv : Y.1 23 N = v) : x_wtN Y w (N + 1) = x_wtN X w N + (if v = w then 1 else 0) := by
  show x_wtN Y w N + (if Y.1 23 N = w then 1 else 0) = _
  rw [hv, wt_cg (X := X) (Y := Y) N (fun k hk => by rw [h k hk])]
theorem IB.more (h : IB X E P N) {v : Int32} (h22 : ∀ s q, s < 8 → P ≤ q → q < 3 → Y.1 22 (3 * s + q) = 0) (h23 : ∀ k, k < N → Y.1 23 k = X.1 23 k) (hv : Y.1 23 N = v) (hv3 : v = 0 ∨ v = 1 ∨ v = 2) (f0 : F.1 0 0 = nI (x_wtN X 0 N + (if v = 0 then 1 else 0))) (f1 : F.1 0 1 = nI (x_wtN X 1 N + (if v = 1 then 1 else 0))) (f2 : F.1 0 2 = nI (x_wtN X 2 N + (if v = 2 then 1 else 0))) (h40 : x_wtN X 0 N + (if v = 0 then 1 else 0) ≤ 40) (hsw : x_SW Y) : IB Y F P (N + 1) := by
  refine ⟨h22, fun k hk => ?_, ?_, ?_, ?_, ?_, hsw⟩
  · by_cases e : k = N
    · subst e; rw [hv]; exact hv3
    · rw [h23 k (by omega)]; exact h.2.1 k (by omega)
  · rw [wt_new h23 hv]; exact f0
  · rw [wt_new h23 hv]; exact f1
  · rw [wt_new h23 hv]; exact f2
  · rw [wt_new h23 hv]; exact h40
theorem INV.ask (h : INV m G X E P R N T) {c : Nat} (hc0 : (co G c).1 = 0) (f17 : ∀ b, co G b ≠ (17, N)) (hLC : LC m (c_ad G c 17 N) P R) (hA : IA Y F P R (N + 1) T) (hB : IB Y F P (N + 1)) (h1 : ∀ j, Y.1 1 j = X.1 1 j) (h2 : ∀ j, Y.1 2 j = X.1 2 j) (g24 : Nat → Nat) (hw : y_WT (c_ad G c 17 N) Y (N + 1) g24) :
    INV (c_sR (c_sR m (ca G 23 0) (fun i => if i = N then c else am_R m (ca G 23 0) i)) (ca G 24 0) g24) (c_ad G c 17 N) Y F P R (N + 1) T := by
  have hL := h.1
  have tr : ∀ {t' n'}, cx G t' n' → t' ≠ 0 → cx (c_ad G c 17 N) t' n' ∧ ca (c_ad G c 17 N) t' n' = ca G t' n' := fun hc h0 => hc.ad hc0 f17 h0
  have n1 : ca G 23 0 ≠ ca G 24 0 := fun q => by have := (cx_inj hL.e23 hL.w q).1; omega
  refine ⟨?_, ⟨fun k hk => ?_, fun p i hp g1 g2 => ?_, fun b => ?_⟩, hA, hB, fun k hk hs => ?_⟩
  · have x23 := tr hL.e23 (by decide)
    have x24 := tr hL.w (by decide)
    rw [← x23.2, ← x24.2]
    exact (hLC.sRg x23.1 (fun _ => rfl) _).sRg x24.1 (fun _ => rfl) _
  · rw [(tr hL.e23 (by decide)).2, c_sR_Ro n1, c_sR_R]
    by_cases e : k = N
    · subst e
      rw [if_pos rfl, c_ad_a]
      exact ⟨rfl, c_ad_x⟩
    · obtain ⟨b1, b2⟩ := h.2.1.1 k (by omega)
      rw [if_neg e, (tr b2 (by decide)).2]
      exact ⟨b1, (tr b2 (by decide)).1⟩
  · rw [h1] at g2
    rw [h2] at g1
    obtain ⟨b1, b2⟩ := h.2.1.2.1 p i hp g1 g2
    have e3 := hL.e3 hp
    rw [(tr e3 (by decide)).2, (tr b2 (by decide)).2, c_sR_Ro (fun q => by have := (cx_inj e3 hL.w q).1; omega), c_sR_Ro (fun q => by have := (cx_inj e3 hL.e23 q).1; omega)]
    exact ⟨b1, (tr b2 (by decide)).1⟩
  · by_cases e : b = c
    · subst e
      rw [c_ad_s]
      exact ⟨fun _ => Nat.lt_succ_self _, fun z => absurd (show 17 = 18 ∨ 17 = 19 from z) (by decide)⟩
    · rw [c_ad_o e]
      refine ⟨fun z => Nat.lt_succ_of_lt ((h.2.1.2.2 b).1 z), fun z => ?_⟩
      obtain ⟨p, q, b1, b2, b3, b4⟩ := (h.2.1.2.2 b).2 z
      exact ⟨p, q, b1, b2, b3, by rw [h1]; exact b4⟩
  · rw [(tr hL.w (by decide)).2, c_sR_R]
    exact hw k hk hs
theorem x_may_cg (h : ∀ o j, o ≠ 0 → o ≠ 23 → Y.1 o j = X.1 o j) (r k : Nat) : x_may Y P r k = x_may X P r k := by
  have hc : ∀ o b n, o ≠ 0 → o ≠ 23 → x_cov Y o b r n = x_cov X o b r n := by
    intro o b n h0 h23
    induction n with
    | zero => rfl
    | succ n ih =>
      show (x_cov Y o b r n && decide (Y.1 o (b + n) ≤ Y.1 15 (3 * r + n))) = (x_cov X o b r n && decide (X.1 o (b + n) ≤ X.1 15 (3 * r + n)))
      rw [ih, h o _ h0 h23, h 15 _ (by decide) (by decide)]
  have hs : ∀ n, x_stl Y r k n = x_stl X r k n := by
    intro n
    induction n with
    | zero => rfl
    | succ n ih =>
      show (x_stl Y r k n && decide (Y.1 1 n - Y.1 15 (3 * r + n) ≤ Y.1 26 k)) = (x_stl X r k n && decide (X.1 1 n - X.1 15 (3 * r + n) ≤ X.1 26 k))
      rw [ih, h 1 _ (by decide) (by decide), h 15 _ (by decide) (by decide), h 26 _ (by decide) (by decide)]
  unfold x_may x_may0
  rw [h 24 _ (by decide) (by decide), h 26 _ (by decide) (by decide), h 18 _ (by decide) (by decide), h 19 _ (by decide) (by decide), hc 25 _ _ (by decide) (by decide), hc 21 _ _ (by decide) (by decide), hc 22 _ _ (by decide) (by decide), hs]
theorem x_fs_cg (h : ∀ o j, o ≠ 0 → o ≠ 23 → Y.1 o j = X.1 o j) (a k : Nat) : ∀ d r, x_fs Y P R a k d r = x_fs X P R a k d r
  | 0, _ => rfl
  | d + 1, r => by
    unfold x_fs
    rw [x_may_cg h, x_fs_cg h a k d (r + 1)]
end
