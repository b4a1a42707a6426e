/-! where the class's cells lie after its constructor -/
section
variable {m : am_Mem} {P R : Nat}
def gtn (e r : Nat) : Nat × Nat := if e = 0 then (4, r) else if e = 1 then (5, r) else if e ≤ 8 then (4 + e, r) else if e = 9 then (5, 4 + r) else if e ≤ 16 then (e - 4, 4 + r) else if e = 17 then (13, r) else (13, 4 + r)
def own (P R a : Nat) : Nat × Nat := if a = 0 then (0, 0) else if a = 1 then (1, 0) else if a = 2 then (20, 0) else if a < 3 + 2 * P then (2 + (a - 3) % 2, (a - 3) / 2) else if a = 3 + 2 * P then (21, 0) else if a < 4 + 2 * P + 19 * R then gtn ((a - (4 + 2 * P)) % 19) ((a - (4 + 2 * P)) / 19) else if a = 4 + 2 * P + 19 * R then (22, 0) else if a < 29 + 2 * P + 19 * R then (14 + (a - (5 + 2 * P + 19 * R)) % 3, (a - (5 + 2 * P + 19 * R)) / 3) else if a = 29 + 2 * P + 19 * R then (23, 0) else if a = 30 + 2 * P + 19 * R then (24, 0) else (0, 0)
def sad (P R n d : Nat) : Nat := if n < 4 then (if n < R then 5 + 2 * P + 19 * n + d else 0) else if n < 4 + R then 13 + 2 * P + 19 * (n - 4) + d else 0
def adr (P R t n : Nat) : Nat := match t with
  | 1 => if n = 0 then 1 else 0
  | 20 => if n = 0 then 2 else 0
  | 2 => if n < P then 3 + 2 * n else 0
  | 3 => if n < P then 4 + 2 * n else 0
  | 21 => if n = 0 then 3 + 2 * P else 0
  | 4 => if n < R then 4 + 2 * P + 19 * n else 0
  | 5 => sad P R n 0
  | 6 => sad P R n 1
  | 7 => sad P R n 2
  | 8 => sad P R n 3
  | 9 => sad P R n 4
  | 10 => sad P R n 5
  | 11 => sad P R n 6
  | 12 => sad P R n 7
  | 13 => if n < 4 then (if n < R then 21 + 2 * P + 19 * n else 0) else if n < 4 + R then 22 + 2 * P + 19 * (n - 4) else 0
  | 22 => if n = 0 then 4 + 2 * P + 19 * R else 0
  | 14 => if n < 8 then 5 + 2 * P + 19 * R + 3 * n else 0
  | 15 => if n < 8 then 6 + 2 * P + 19 * R + 3 * n else 0
  | 16 => if n < 8 then 7 + 2 * P + 19 * R + 3 * n else 0
  | 23 => if n = 0 then 29 + 2 * P + 19 * R else 0
  | 24 => if n = 0 then 30 + 2 * P + 19 * R else 0
  | _ => 0
theorem own_0 : own P R 0 = (0, 0) := if_pos rfl
theorem own_1 : own P R 1 = (1, 0) := by
  unfold own; rw [if_neg (by omega), if_pos rfl]
theorem own_2 : own P R 2 = (20, 0) := by
  unfold own; rw [if_neg (by omega), if_neg (by omega), if_pos rfl]
theorem own_L0 {i : Nat} (h : i < P) : own P R (3 + 2 * i) = (2, i) := by
  unfold own
  rw [if_neg (by omega), if_neg (by omega), if_neg (by omega), if_pos (by omega), show (3 + 2 * i - 3) % 2 = 0 by omega, show (3 + 2 * i - 3) / 2 = i by omega]
theorem own_L1 {i : Nat} (h : i < P) : own P R (4 + 2 * i) = (3, i) := by
  unfold own
  rw [if_neg (by omega), if_neg (by omega), if_neg (by omega), if_pos (by omega), show (4 + 2 * i - 3) % 2 = 1 by omega, show (4 + 2 * i - 3) / 2 = i by omega]
theorem own_21 : own P R (3 + 2 * P) = (21, 0) := by
  unfold own; rw [if_neg (by omega), if_neg (by omega), if_neg (by omega), if_neg (by omega), if_pos rfl]
theorem own_R {r e : Nat} (h : r < R) (he : e < 19) : own P R (4 + 2 * P + 19 * r + e) = gtn e r := by
  unfold own
  rw [if_neg (by omega), if_neg (by omega), if_neg (by omega), if_neg (by omega), if_neg (by omega), if_pos (by omega), show (4 + 2 * P + 19 * r + e - (4 + 2 * P)) % 19 = e by omega, show (4 + 2 * P + 19 * r + e - (4 + 2 * P)) / 19 = r by omega]
theorem own_22 : own P R (4 + 2 * P + 19 * R) = (22, 0) := by
  unfold own; rw [if_neg (by omega), if_neg (by omega), if_neg (by omega), if_neg (by omega), if_neg (by omega), if_neg (by omega), if_pos rfl]
theorem own_S {s e : Nat} (h : s < 8) (he : e < 3) : own P R (5 + 2 * P + 19 * R + 3 * s + e) = (14 + e, s) := by
  unfold own
  rw [if_neg (by omega), if_neg (by omega), if_neg (by omega), if_neg (by omega), if_neg (by omega), if_neg (by omega), if_neg (by omega), if_pos (by omega), show (5 + 2 * P + 19 * R + 3 * s + e - (5 + 2 * P + 19 * R)) % 3 = e by omega, show (5 + 2 * P + 19 * R + 3 * s + e - (5 + 2 * P + 19 * R)) / 3 = s by omega]
theorem own_23 : own P R (29 + 2 * P + 19 * R) = (23, 0) := by
  unfold own; rw [if_neg (by omega), if_neg (by omega), if_neg (by omega), if_neg (by omega), if_neg (by omega), if_neg (by omega), if_neg (by omega), if_neg (by omega), if_pos rfl]
theorem own_24 : own P R (30 + 2 * P + 19 * R) = (24, 0) := by
  unfold own; rw [if_neg (by omega), if_neg (by omega), if_neg (by omega), if_neg (by omega), if_neg (by omega), if_neg (by omega), if_neg (by omega), if_neg (by omega), if_neg (by omega), if_pos rfl]
theorem own_n {a : Nat} (h : 30 + 2 * P + 19 * R < a) : own P R a = (0, 0) := by
  unfold own; rw [if_neg (by omega), if_neg (by omega), if_neg (by omega), if_neg (by omega), if_neg (by omega), if_neg (by omega), if_neg (by omega), if_neg (by omega), if_neg (by omega), if_neg (by omega)]
theorem own_ex {a : Nat} (h : (own P R a).1 ≠ 0) : a = 1 ∨ a = 2 ∨ (∃ i, i < P ∧ a = 3 + 2 * i) ∨ (∃ i, i < P ∧ a = 4 + 2 * i) ∨ a = 3 + 2 * P ∨ (∃ r e, r < R ∧ e < 19 ∧ a = 4 + 2 * P + 19 * r + e) ∨ a = 4 + 2 * P + 19 * R ∨ (∃ s e, s < 8 ∧ e < 3 ∧ a = 5 + 2 * P + 19 * R + 3 * s + e) ∨ a = 29 + 2 * P + 19 * R ∨ a = 30 + 2 * P + 19 * R := by
  have h0 : a ≠ 0 := by
    intro e
    subst e
    exact h (by rw [own_0])
  have h1 : a ≤ 30 + 2 * P + 19 * R := by
    rcases Nat.lt_or_ge (30 + 2 * P + 19 * R) a with q | q
    · exact absurd (by rw [own_n q]) h
    · exact q
  by_cases c1 : a < 3 + 2 * P
  · by_cases c2 : a ≤ 2
    · omega
    · by_cases c3 : (a - 3) % 2 = 0
      · exact Or.inr (Or.inr (Or.inl ⟨(a - 3) / 2, by omega, by omega⟩))
      · exact Or.inr (Or.inr (Or.inr (Or.inl ⟨(a - 3) / 2, by omega, by omega⟩)))
  · by_cases c2 : a = 3 + 2 * P
    · omega
    · by_cases c3 : a < 4 + 2 * P + 19 * R
      · exact Or.inr (Or.inr (Or.inr (Or.inr (Or.inr (Or.inl ⟨(a - (4 + 2 * P)) / 19, (a - (4 + 2 * P)) % 19, by omega, by omega, by omega⟩)))))
      · by_cases c4 : a = 4 + 2 * P + 19 * R
        · omega
        · by_cases c5 : a < 29 + 2 * P + 19 * R
          · exact Or.inr (Or.inr (Or.inr (Or.inr (Or.inr (Or.inr (Or.inr (Or.inl ⟨(a - (5 + 2 * P + 19 * R)) / 3, (a - (5 + 2 * P + 19 * R)) % 3, by omega, by omega, by omega⟩)))))))
          · omega
def zf (t : Nat) : Nat → Int32 := if t = 9 then z1 else if t = 4 then zu else z0
/-- a cell that is as its tag says -/
def c_ok (m : am_Mem) (P R a t n : Nat) : Prop := own P R a = (t, n) ∧ adr P R t n = a ∧ cb m a (ckd t) (cln P R t) (zf t) ∧ 1 ≤ a ∧ a ≤ am_n m ∧ (t = 9 → n < 8) ∧ (t = 4 → n < R) ∧ t ≠ 17 ∧ t ≠ 18 ∧ t ≠ 19
theorem sad_0 {r d : Nat} (h : r < R) (hR : R ≤ 4) : sad P R r d = 5 + 2 * P + 19 * r + d := by
  unfold sad
  rw [if_pos (by omega), if_pos h]
theorem sad_4 {r d : Nat} (h : r < R) : sad P R (4 + r) d = 13 + 2 * P + 19 * r + d := by
  unfold sad
  rw [if_neg (by omega), if_pos (by omega), show 4 + r - 4 = r by omega]
theorem ok_st {a t n s j : Nat} (hs : c_sb m s) (hj : j < 7) (ho : own P R a = (t, n)) (ha : adr P R t n = a) (hst : a = s + 1 + j) (ht : t = 6 + j) (hn : n < 8) (h1 : s + 7 ≤ am_n m) : c_ok m P R a t n := by
  have h := hs.2.2 j hj
  rw [← hst] at h
  refine ⟨ho, ha, ?_, by omega, by omega, fun _ => hn, fun z => by omega, by omega, by omega, by omega⟩
  subst ht
  rcases (show j = 0 ∨ j = 1 ∨ j = 2 ∨ j = 3 ∨ j = 4 ∨ j = 5 ∨ j = 6 by omega) with rfl | rfl | rfl | rfl | rfl | rfl | rfl
  all_goals exact h
theorem ok_rep {r e : Nat} (hR : R ≤ 4) (hr : r < R) (he : e < 19) (h : c_rb m (4 + 2 * P + 19 * r)) (hn : am_n m = 30 + 2 * P + 19 * R) : c_ok m P R (4 + 2 * P + 19 * r + e) (gtn e r).1 (gtn e r).2 := by
  obtain ⟨q1, -, q3, q4, q5, q6⟩ := h
  have ow := own_R (P := P) hr he
  rcases (show e = 0 ∨ e = 1 ∨ e = 2 ∨ e = 3 ∨ e = 4 ∨ e = 5 ∨ e = 6 ∨ e = 7 ∨ e = 8 ∨ e = 9 ∨ e = 10 ∨ e = 11 ∨ e = 12 ∨ e = 13 ∨ e = 14 ∨ e = 15 ∨ e = 16 ∨ e = 17 ∨ e = 18 by omega) with rfl | rfl | rfl | rfl | rfl | rfl | rfl | rfl | rfl | rfl | rfl | rfl | rfl | rfl | rfl | rfl | rfl | rfl | rfl
  · exact ⟨ow, if_pos hr, q1, by omega, by omega, fun z => absurd (show 4 = 9 from z) (by decide), fun _ => hr, (show (4 : Nat) ≠ 17 by decide), (show (4 : Nat) ≠ 18 by decide), (show (4 : Nat) ≠ 19 by decide)⟩
  · exact ⟨ow, (sad_0 hr hR).trans (by omega), q3.1, by omega, by omega, fun z => absurd (show 5 = 9 from z) (by decide), fun z => absurd (show 5 = 4 from z) (by decide), (show (5 : Nat) ≠ 17 by decide), (show (5 : Nat) ≠ 18 by decide), (show (5 : Nat) ≠ 19 by decide)⟩
  · exact ok_st (j := 0) q3 (by omega) ow ((sad_0 hr hR).trans (by omega)) (by omega) rfl (show r < 8 by omega) (by omega)
  · exact ok_st (j := 1) q3 (by omega) ow ((sad_0 hr hR).trans (by omega)) (by omega) rfl (show r < 8 by omega) (by omega)
  · exact ok_st (j := 2) q3 (by omega) ow ((sad_0 hr hR).trans (by omega)) (by omega) rfl (show r < 8 by omega) (by omega)
  · exact ok_st (j := 3) q3 (by omega) ow ((sad_0 hr hR).trans (by omega)) (by omega) rfl (show r < 8 by omega) (by omega)
  · exact ok_st (j := 4) q3 (by omega) ow ((sad_0 hr hR).trans (by omega)) (by omega) rfl (show r < 8 by omega) (by omega)
  · exact ok_st (j := 5) q3 (by omega) ow ((sad_0 hr hR).trans (by omega)) (by omega) rfl (show r < 8 by omega) (by omega)
  · exact ok_st (j := 6) q3 (by omega) ow ((sad_0 hr hR).trans (by omega)) (by omega) rfl (show r < 8 by omega) (by omega)
  · exact ⟨ow, (sad_4 hr).trans (by omega), q4.1, by omega, by omega, fun z => absurd (show 5 = 9 from z) (by decide), fun z => absurd (show 5 = 4 from z) (by decide), (show (5 : Nat) ≠ 17 by decide), (show (5 : Nat) ≠ 18 by decide), (show (5 : Nat) ≠ 19 by decide)⟩
  · exact ok_st (j := 0) q4 (by omega) ow ((sad_4 hr).trans (by omega)) (by omega) rfl (show 4 + r < 8 by omega) (by omega)
  · exact ok_st (j := 1) q4 (by omega) ow ((sad_4 hr).trans (by omega)) (by omega) rfl (show 4 + r < 8 by omega) (by omega)
  · exact ok_st (j := 2) q4 (by omega) ow ((sad_4 hr).trans (by omega)) (by omega) rfl (show 4 + r < 8 by omega) (by omega)
  · exact ok_st (j := 3) q4 (by omega) ow ((sad_4 hr).trans (by omega)) (by omega) rfl (show 4 + r < 8 by omega) (by omega)
  · exact ok_st (j := 4) q4 (by omega) ow ((sad_4 hr).trans (by omega)) (by omega) rfl (show 4 + r < 8 by omega) (by omega)
  · exact ok_st (j := 5) q4 (by omega) ow ((sad_4 hr).trans (by omega)) (by omega) rfl (show 4 + r < 8 by omega) (by omega)
  · exact ok_st (j := 6) q4 (by omega) ow ((sad_4 hr).trans (by omega)) (by omega) rfl (show 4 + r < 8 by omega) (by omega)
  · refine ⟨ow, ?_, q5, by omega, by omega, fun z => absurd (show 13 = 9 from z) (by decide), fun z => absurd (show 13 = 4 from z) (by decide), (show (13 : Nat) ≠ 17 by decide), (show (13 : Nat) ≠ 18 by decide), (show (13 : Nat) ≠ 19 by decide)⟩
    show (if r < 4 then (if r < R then 21 + 2 * P + 19 * r else 0) else if r < 4 + R then 22 + 2 * P + 19 * (r - 4) else 0) = _
    rw [if_pos (by omega), if_pos hr]
    omega
  · refine ⟨ow, ?_, q6, by omega, by omega, fun z => absurd (show 13 = 9 from z) (by decide), fun z => absurd (show 13 = 4 from z) (by decide), (show (13 : Nat) ≠ 17 by decide), (show (13 : Nat) ≠ 18 by decide), (show (13 : Nat) ≠ 19 by decide)⟩
    show (if 4 + r < 4 then (if 4 + r < R then 21 + 2 * P + 19 * (4 + r) else 0) else if 4 + r < 4 + R then 22 + 2 * P + 19 * (4 + r - 4) else 0) = _
    rw [if_neg (by omega), if_pos (by omega)]
    omega
theorem ok_1 {a t n : Nat} (ho : own P R a = (t, n)) (ha : adr P R t n = a) (hc : cb m a (ckd t) (cln P R t) z0) (h9 : t ≠ 9) (h4 : t ≠ 4) (h17 : t ≠ 17) (h18 : t ≠ 18) (h19 : t ≠ 19) (h1 : 1 ≤ a) (h2 : a ≤ am_n m) : c_ok m P R a t n := by
  refine ⟨ho, ha, ?_, h1, h2, fun z => absurd z h9, fun z => absurd z h4, h17, h18, h19⟩
  unfold zf
  rw [if_neg h9, if_neg h4]
  exact hc
theorem c_CL.ok (h : c_CL m P R) (hR : R ≤ 4) {a : Nat} (ha : (own P R a).1 ≠ 0) : c_ok m P R a (own P R a).1 (own P R a).2 := by
  obtain ⟨hn, c1, -, f1, f2, f3, c23, c24⟩ := h
  rcases own_ex ha with rfl | rfl | ⟨i, hi, rfl⟩ | ⟨i, hi, rfl⟩ | rfl | ⟨r, e, hr, he, rfl⟩ | rfl | ⟨s, e, hs, he, rfl⟩ | rfl | rfl
  · rw [own_1]
    exact ok_1 own_1 rfl c1 (by decide) (by decide) (by decide) (by decide) (by decide) (by omega) (by omega)
  · rw [own_2]
    exact ok_1 own_2 rfl f1.1 (by decide) (by decide) (by decide) (by decide) (by decide) (by omega) (by omega)
  · rw [own_L0 hi]
    exact ok_1 (own_L0 hi) (if_pos hi) (f1.2 i hi).2.1 (show (2 : Nat) ≠ 9 by decide) (show (2 : Nat) ≠ 4 by decide) (show (2 : Nat) ≠ 17 by decide) (show (2 : Nat) ≠ 18 by decide) (show (2 : Nat) ≠ 19 by decide) (by omega) (by omega)
  · rw [own_L1 hi]
    have := (f1.2 i hi).2.2.2
    rw [show 3 + 2 * i + 1 = 4 + 2 * i by omega] at this
    exact ok_1 (own_L1 hi) (if_pos hi) this (show (3 : Nat) ≠ 9 by decide) (show (3 : Nat) ≠ 4 by decide) (show (3 : Nat) ≠ 17 by decide) (show (3 : Nat) ≠ 18 by decide) (show (3 : Nat) ≠ 19 by decide) (by omega) (by omega)
  · rw [own_21]
    exact ok_1 own_21 rfl f2.1 (by decide) (by decide) (by decide) (by decide) (by decide) (by omega) (by omega)
  · rw [own_R hr he]
    exact ok_rep hR hr he (f2.2 r hr).2 hn
  · rw [own_22]
    exact ok_1 own_22 rfl f3.1 (by decide) (by decide) (by decide) (by decide) (by decide) (by omega) (by omega)
  · rw [own_S hs he]
    obtain ⟨q1, q2, q3, q4, q5⟩ := (f3.2 s hs).2
    rcases (show e = 0 ∨ e = 1 ∨ e = 2 by omega) with rfl | rfl | rfl
    · exact ok_1 (own_S hs he) (if_pos hs) q1 (show (14 : Nat) ≠ 9 by decide) (show (14 : Nat) ≠ 4 by decide) (show (14 : Nat) ≠ 17 by decide) (show (14 : Nat) ≠ 18 by decide) (show (14 : Nat) ≠ 19 by decide) (by omega) (by omega)
    · exact ok_1 (own_S hs he) ((if_pos hs).trans (by omega)) q4 (show (15 : Nat) ≠ 9 by decide) (show (15 : Nat) ≠ 4 by decide) (show (15 : Nat) ≠ 17 by decide) (show (15 : Nat) ≠ 18 by decide) (show (15 : Nat) ≠ 19 by decide) (by omega) (by omega)
    · exact ok_1 (own_S hs he) ((if_pos hs).trans (by omega)) q5 (show (16 : Nat) ≠ 9 by decide) (show (16 : Nat) ≠ 4 by decide) (show (16 : Nat) ≠ 17 by decide) (show (16 : Nat) ≠ 18 by decide) (show (16 : Nat) ≠ 19 by decide) (by omega) (by omega)
  · rw [own_23]
    exact ok_1 own_23 rfl c23 (by decide) (by decide) (by decide) (by decide) (by decide) (by omega) (by omega)
  · rw [own_24]
    exact ok_1 own_24 rfl c24 (by decide) (by decide) (by decide) (by decide) (by decide) (by omega) (by omega)
end
