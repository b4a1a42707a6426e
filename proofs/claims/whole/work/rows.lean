section
-- ===== PART A: goes FIRST, ahead of the names: the tables' words, and 'selects' of the private methods out of them =====
/-- a private method of a class that the tables say can be made, by its rows of tables_1 -/
def lw_okq (q : MethodName × Nat) : Prop := (q.1.cls ≠ "java/lang/invoke/MethodHandle" ∧ q.1.cls ≠ "java/lang/invoke/VarHandle") ∧ Cond.instantiable q.1.cls q.2 ∈ tables_1 ∧ Cond.privateMethod q.1 ∈ tables_1 ∧ Cond.instanceMethod q.1 ∈ tables_1
theorem lw_p0 : lw_okq (⟨"ReadSide", "leastKept", "(I)I"⟩, 10) := ⟨⟨by decide +kernel, by decide +kernel⟩, List.mem_of_getElem? (i := 18) (by decide +kernel), List.mem_of_getElem? (i := 170) (by decide +kernel), List.mem_of_getElem? (i := 171) (by decide +kernel)⟩
theorem lw_p1 : lw_okq (⟨"java/lang/Throwable", "fillInStackTrace", "(I)Ljava/lang/Throwable;"⟩, 6) := ⟨⟨by decide +kernel, by decide +kernel⟩, List.mem_of_getElem? (i := 234) (by decide +kernel), List.mem_of_getElem? (i := 232) (by decide +kernel), List.mem_of_getElem? (i := 233) (by decide +kernel)⟩
theorem lw_p2 : lw_okq (⟨"ReadSide", "lookAtWaiting", "(I)V"⟩, 10) := ⟨⟨by decide +kernel, by decide +kernel⟩, List.mem_of_getElem? (i := 18) (by decide +kernel), List.mem_of_getElem? (i := 283) (by decide +kernel), List.mem_of_getElem? (i := 284) (by decide +kernel)⟩
theorem lw_p3 : lw_okq (⟨"ReadSide", "mayAnswer", "(LReadSide$Replica;LReadSide$Read;)Z"⟩, 10) := ⟨⟨by decide +kernel, by decide +kernel⟩, List.mem_of_getElem? (i := 18) (by decide +kernel), List.mem_of_getElem? (i := 287) (by decide +kernel), List.mem_of_getElem? (i := 288) (by decide +kernel)⟩
theorem lw_p4 : lw_okq (⟨"ReadSide", "leastFor", "(LReadSide$Read;I)I"⟩, 10) := ⟨⟨by decide +kernel, by decide +kernel⟩, List.mem_of_getElem? (i := 18) (by decide +kernel), List.mem_of_getElem? (i := 291) (by decide +kernel), List.mem_of_getElem? (i := 292) (by decide +kernel)⟩
theorem lw_p5 : lw_okq (⟨"ReadSide", "answer", "(LReadSide$Read;I)V"⟩, 10) := ⟨⟨by decide +kernel, by decide +kernel⟩, List.mem_of_getElem? (i := 18) (by decide +kernel), List.mem_of_getElem? (i := 301) (by decide +kernel), List.mem_of_getElem? (i := 302) (by decide +kernel)⟩
theorem lw_p6 : lw_okq (⟨"ReadSide", "forgetEnded", "()V"⟩, 10) := ⟨⟨by decide +kernel, by decide +kernel⟩, List.mem_of_getElem? (i := 18) (by decide +kernel), List.mem_of_getElem? (i := 333) (by decide +kernel), List.mem_of_getElem? (i := 334) (by decide +kernel)⟩
theorem lw_p7 : lw_okq (⟨"ReadSide", "takeStep", "(II)I"⟩, 10) := ⟨⟨by decide +kernel, by decide +kernel⟩, List.mem_of_getElem? (i := 18) (by decide +kernel), List.mem_of_getElem? (i := 424) (by decide +kernel), List.mem_of_getElem? (i := 425) (by decide +kernel)⟩
theorem lw_p8 : lw_okq (⟨"ReadSide", "takeStepsOfTick", "(I)I"⟩, 10) := ⟨⟨by decide +kernel, by decide +kernel⟩, List.mem_of_getElem? (i := 18) (by decide +kernel), List.mem_of_getElem? (i := 471) (by decide +kernel), List.mem_of_getElem? (i := 472) (by decide +kernel)⟩
theorem lw_p9 : lw_okq (⟨"ReadSide", "failOverdue", "()V"⟩, 10) := ⟨⟨by decide +kernel, by decide +kernel⟩, List.mem_of_getElem? (i := 18) (by decide +kernel), List.mem_of_getElem? (i := 475) (by decide +kernel), List.mem_of_getElem? (i := 476) (by decide +kernel)⟩
theorem lw_p10 : lw_okq (⟨"ReadSide", "fail", "(LReadSide$Read;)V"⟩, 10) := ⟨⟨by decide +kernel, by decide +kernel⟩, List.mem_of_getElem? (i := 18) (by decide +kernel), List.mem_of_getElem? (i := 479) (by decide +kernel), List.mem_of_getElem? (i := 480) (by decide +kernel)⟩
theorem lw_p11 : lw_okq (⟨"ReadSide", "needQuestion", "(II)V"⟩, 10) := ⟨⟨by decide +kernel, by decide +kernel⟩, List.mem_of_getElem? (i := 18) (by decide +kernel), List.mem_of_getElem? (i := 530) (by decide +kernel), List.mem_of_getElem? (i := 531) (by decide +kernel)⟩
theorem lw_p12 : lw_okq (⟨"ReadSide", "needToken", "(J)V"⟩, 10) := ⟨⟨by decide +kernel, by decide +kernel⟩, List.mem_of_getElem? (i := 18) (by decide +kernel), List.mem_of_getElem? (i := 534) (by decide +kernel), List.mem_of_getElem? (i := 535) (by decide +kernel)⟩
theorem lw_p13 : lw_okq (⟨"ReadSide", "firstThatMay", "(LReadSide$Read;)I"⟩, 10) := ⟨⟨by decide +kernel, by decide +kernel⟩, List.mem_of_getElem? (i := 18) (by decide +kernel), List.mem_of_getElem? (i := 591) (by decide +kernel), List.mem_of_getElem? (i := 592) (by decide +kernel)⟩
theorem lw_p14 : lw_okq (⟨"ReadSideModel", "look", "(I)V"⟩, 39) := ⟨⟨by decide +kernel, by decide +kernel⟩, List.mem_of_getElem? (i := 661) (by decide +kernel), List.mem_of_getElem? (i := 802) (by decide +kernel), List.mem_of_getElem? (i := 803) (by decide +kernel)⟩
theorem lw_p15 : lw_okq (⟨"ReadSideModel", "may", "(II)Z"⟩, 39) := ⟨⟨by decide +kernel, by decide +kernel⟩, List.mem_of_getElem? (i := 661) (by decide +kernel), List.mem_of_getElem? (i := 806) (by decide +kernel), List.mem_of_getElem? (i := 807) (by decide +kernel)⟩
def lw_privs_1 : List (MethodName × Nat) := [(⟨"ReadSide", "leastKept", "(I)I"⟩, 10), (⟨"java/lang/Throwable", "fillInStackTrace", "(I)Ljava/lang/Throwable;"⟩, 6), (⟨"ReadSide", "lookAtWaiting", "(I)V"⟩, 10), (⟨"ReadSide", "mayAnswer", "(LReadSide$Replica;LReadSide$Read;)Z"⟩, 10), (⟨"ReadSide", "leastFor", "(LReadSide$Read;I)I"⟩, 10), (⟨"ReadSide", "answer", "(LReadSide$Read;I)V"⟩, 10), (⟨"ReadSide", "forgetEnded", "()V"⟩, 10), (⟨"ReadSide", "takeStep", "(II)I"⟩, 10), (⟨"ReadSide", "takeStepsOfTick", "(I)I"⟩, 10), (⟨"ReadSide", "failOverdue", "()V"⟩, 10), (⟨"ReadSide", "fail", "(LReadSide$Read;)V"⟩, 10), (⟨"ReadSide", "needQuestion", "(II)V"⟩, 10), (⟨"ReadSide", "needToken", "(J)V"⟩, 10), (⟨"ReadSide", "firstThatMay", "(LReadSide$Read;)I"⟩, 10), (⟨"ReadSideModel", "look", "(I)V"⟩, 39), (⟨"ReadSideModel", "may", "(II)Z"⟩, 39)]
theorem lw_r1 : ∀ q ∈ lw_privs_1, lw_okq q := List.forall_mem_cons.mpr ⟨lw_p0, List.forall_mem_cons.mpr ⟨lw_p1, List.forall_mem_cons.mpr ⟨lw_p2, List.forall_mem_cons.mpr ⟨lw_p3, List.forall_mem_cons.mpr ⟨lw_p4, List.forall_mem_cons.mpr ⟨lw_p5, List.forall_mem_cons.mpr ⟨lw_p6, List.forall_mem_cons.mpr ⟨lw_p7, List.forall_mem_cons.mpr ⟨lw_p8, List.forall_mem_cons.mpr ⟨lw_p9, List.forall_mem_cons.mpr ⟨lw_p10, List.forall_mem_cons.mpr ⟨lw_p11, List.forall_mem_cons.mpr ⟨lw_p12, List.forall_mem_cons.mpr ⟨lw_p13, List.forall_mem_cons.mpr ⟨lw_p14, List.forall_mem_cons.mpr ⟨lw_p15, fun _ h => absurd h List.not_mem_nil⟩⟩⟩⟩⟩⟩⟩⟩⟩⟩⟩⟩⟩⟩⟩⟩
theorem lw_p16 : lw_okq (⟨"ReadSideModel", "covers", "([III)Z"⟩, 39) := ⟨⟨by decide +kernel, by decide +kernel⟩, List.mem_of_getElem? (i := 661) (by decide +kernel), List.mem_of_getElem? (i := 810) (by decide +kernel), List.mem_of_getElem? (i := 811) (by decide +kernel)⟩
theorem lw_p17 : lw_okq (⟨"ReadSideModel", "answer", "(II)V"⟩, 39) := ⟨⟨by decide +kernel, by decide +kernel⟩, List.mem_of_getElem? (i := 661) (by decide +kernel), List.mem_of_getElem? (i := 814) (by decide +kernel), List.mem_of_getElem? (i := 815) (by decide +kernel)⟩
theorem lw_p18 : lw_okq (⟨"ReadSideModel", "tell", "(III)J"⟩, 39) := ⟨⟨by decide +kernel, by decide +kernel⟩, List.mem_of_getElem? (i := 661) (by decide +kernel), List.mem_of_getElem? (i := 818) (by decide +kernel), List.mem_of_getElem? (i := 819) (by decide +kernel)⟩
theorem lw_p19 : lw_okq (⟨"ReadSideModel", "ranked", "(II)I"⟩, 39) := ⟨⟨by decide +kernel, by decide +kernel⟩, List.mem_of_getElem? (i := 661) (by decide +kernel), List.mem_of_getElem? (i := 822) (by decide +kernel), List.mem_of_getElem? (i := 823) (by decide +kernel)⟩
theorem lw_p20 : lw_okq (⟨"ReadSideModel", "isReplica", "(I)Z"⟩, 39) := ⟨⟨by decide +kernel, by decide +kernel⟩, List.mem_of_getElem? (i := 661) (by decide +kernel), List.mem_of_getElem? (i := 843) (by decide +kernel), List.mem_of_getElem? (i := 844) (by decide +kernel)⟩
theorem lw_p21 : lw_okq (⟨"ReadSideModel", "isPart", "(I)Z"⟩, 39) := ⟨⟨by decide +kernel, by decide +kernel⟩, List.mem_of_getElem? (i := 661) (by decide +kernel), List.mem_of_getElem? (i := 859) (by decide +kernel), List.mem_of_getElem? (i := 860) (by decide +kernel)⟩
theorem lw_p22 : lw_okq (⟨"ReadSideModel", "advance", "(II)I"⟩, 39) := ⟨⟨by decide +kernel, by decide +kernel⟩, List.mem_of_getElem? (i := 661) (by decide +kernel), List.mem_of_getElem? (i := 863) (by decide +kernel), List.mem_of_getElem? (i := 864) (by decide +kernel)⟩
theorem lw_p23 : lw_okq (⟨"ReadSideModel", "take", "(II)V"⟩, 39) := ⟨⟨by decide +kernel, by decide +kernel⟩, List.mem_of_getElem? (i := 661) (by decide +kernel), List.mem_of_getElem? (i := 867) (by decide +kernel), List.mem_of_getElem? (i := 868) (by decide +kernel)⟩
theorem lw_p24 : lw_okq (⟨"ReadSideModel", "tick", "()I"⟩, 39) := ⟨⟨by decide +kernel, by decide +kernel⟩, List.mem_of_getElem? (i := 661) (by decide +kernel), List.mem_of_getElem? (i := 885) (by decide +kernel), List.mem_of_getElem? (i := 886) (by decide +kernel)⟩
theorem lw_p25 : lw_okq (⟨"ReadSideModel", "fail", "(I)V"⟩, 39) := ⟨⟨by decide +kernel, by decide +kernel⟩, List.mem_of_getElem? (i := 661) (by decide +kernel), List.mem_of_getElem? (i := 889) (by decide +kernel), List.mem_of_getElem? (i := 890) (by decide +kernel)⟩
theorem lw_p26 : lw_okq (⟨"ReadSideModel", "copy", "(II)V"⟩, 39) := ⟨⟨by decide +kernel, by decide +kernel⟩, List.mem_of_getElem? (i := 661) (by decide +kernel), List.mem_of_getElem? (i := 901) (by decide +kernel), List.mem_of_getElem? (i := 902) (by decide +kernel)⟩
theorem lw_p27 : lw_okq (⟨"ReadSideModel", "sum", "(I)I"⟩, 39) := ⟨⟨by decide +kernel, by decide +kernel⟩, List.mem_of_getElem? (i := 661) (by decide +kernel), List.mem_of_getElem? (i := 905) (by decide +kernel), List.mem_of_getElem? (i := 906) (by decide +kernel)⟩
theorem lw_p28 : lw_okq (⟨"ReadSideModel", "isToken", "(J)Z"⟩, 39) := ⟨⟨by decide +kernel, by decide +kernel⟩, List.mem_of_getElem? (i := 661) (by decide +kernel), List.mem_of_getElem? (i := 921) (by decide +kernel), List.mem_of_getElem? (i := 922) (by decide +kernel)⟩
theorem lw_p29 : lw_okq (⟨"ReadSideModel", "isQuestion", "(II)Z"⟩, 39) := ⟨⟨by decide +kernel, by decide +kernel⟩, List.mem_of_getElem? (i := 661) (by decide +kernel), List.mem_of_getElem? (i := 933) (by decide +kernel), List.mem_of_getElem? (i := 934) (by decide +kernel)⟩
theorem lw_p30 : lw_okq (⟨"ReadSideModel", "waiting", "()I"⟩, 39) := ⟨⟨by decide +kernel, by decide +kernel⟩, List.mem_of_getElem? (i := 661) (by decide +kernel), List.mem_of_getElem? (i := 937) (by decide +kernel), List.mem_of_getElem? (i := 938) (by decide +kernel)⟩
def lw_privs_2 : List (MethodName × Nat) := [(⟨"ReadSideModel", "covers", "([III)Z"⟩, 39), (⟨"ReadSideModel", "answer", "(II)V"⟩, 39), (⟨"ReadSideModel", "tell", "(III)J"⟩, 39), (⟨"ReadSideModel", "ranked", "(II)I"⟩, 39), (⟨"ReadSideModel", "isReplica", "(I)Z"⟩, 39), (⟨"ReadSideModel", "isPart", "(I)Z"⟩, 39), (⟨"ReadSideModel", "advance", "(II)I"⟩, 39), (⟨"ReadSideModel", "take", "(II)V"⟩, 39), (⟨"ReadSideModel", "tick", "()I"⟩, 39), (⟨"ReadSideModel", "fail", "(I)V"⟩, 39), (⟨"ReadSideModel", "copy", "(II)V"⟩, 39), (⟨"ReadSideModel", "sum", "(I)I"⟩, 39), (⟨"ReadSideModel", "isToken", "(J)Z"⟩, 39), (⟨"ReadSideModel", "isQuestion", "(II)Z"⟩, 39), (⟨"ReadSideModel", "waiting", "()I"⟩, 39)]
theorem lw_r2 : ∀ q ∈ lw_privs_2, lw_okq q := List.forall_mem_cons.mpr ⟨lw_p16, List.forall_mem_cons.mpr ⟨lw_p17, List.forall_mem_cons.mpr ⟨lw_p18, List.forall_mem_cons.mpr ⟨lw_p19, List.forall_mem_cons.mpr ⟨lw_p20, List.forall_mem_cons.mpr ⟨lw_p21, List.forall_mem_cons.mpr ⟨lw_p22, List.forall_mem_cons.mpr ⟨lw_p23, List.forall_mem_cons.mpr ⟨lw_p24, List.forall_mem_cons.mpr ⟨lw_p25, List.forall_mem_cons.mpr ⟨lw_p26, List.forall_mem_cons.mpr ⟨lw_p27, List.forall_mem_cons.mpr ⟨lw_p28, List.forall_mem_cons.mpr ⟨lw_p29, List.forall_mem_cons.mpr ⟨lw_p30, fun _ h => absurd h List.not_mem_nil⟩⟩⟩⟩⟩⟩⟩⟩⟩⟩⟩⟩⟩⟩⟩
def lw_privs : List (MethodName × Nat) := lw_privs_1 ++ (lw_privs_2)
def lw_tbl : List Cond := k2_sels lw_privs ++ tables_1
theorem lw_privs_ok : ∀ q ∈ lw_privs, lw_okq q := by
  show ∀ q ∈ lw_privs_1 ++ (lw_privs_2), lw_okq q
  exact List.forall_mem_append.mpr ⟨lw_r1, lw_r2⟩
end
section
section VXA
section Ends
variable {p : Program} {l : Launch} {e : Env} {R : Room} {s : State} {m : MethodId} {args : Array Value} {below : List Frame} {meth : Method} {c : Code} {H : Heap} {locs : List Loc} {cells slots : Nat} {Q : State → Prop}
variable {mc ms : Nat} {free : Addr → Prop} {A0 A1 : Nat → Prop} {H0 : Heap} {a : Array Value} {ls : Array Slot} {st0 rest : List Value}
variable {Qc : Array Value → State → Outcome → State → Prop} {XC : String → State → State → Prop}
theorem vx_frame {U : State} {k n : Nat} (h : s.sameButNew ({ U with vm := s.vm } : State) locs k n) : s.heap.size ≤ U.heap.size ∧ ∀ q : Nat, q < s.heap.size → (∀ z ∈ locs, z.base ≠ q) → U.heap[q]? = s.heap[q]? := by
  obtain ⟨-, h2, -, -, -, h6⟩ := h
  refine ⟨h2, fun q hq hz => ?_⟩
  obtain ⟨c9, e1, e2, e3, e4⟩ := h6 q _ (Array.getElem?_eq_getElem hq)
  have hs : c9.slots = (s.heap[q]).slots := Array.ext_getElem? fun i => e4 i fun hm => hz _ hm rfl
  have h9 : c9 = s.heap[q] := by
    rw [hs] at e2
    exact e2
  have e5 : U.heap[q]? = some c9 := e1
  rw [e5, h9, Array.getElem?_eq_getElem hq]
/-- the words of a throw but the four that speak of the heap -/
def vx_no (w : Cond) : Bool := decide (w ≠ .isRef (.static Bundle.tN "UNASSIGNED_STACK" Bundle.steD)) && decide (w ≠ .isRef (.static Bundle.tN "SUPPRESSED_SENTINEL" Bundle.listD)) && decide (w ≠ .laysStatic Bundle.tN "UNASSIGNED_STACK" Bundle.steD) && decide (w ≠ .laysStatic Bundle.tN "SUPPRESSED_SENTINEL" Bundle.listD)
def vx_at0 (own : String) (ic : Nat) (X : String) (names : List String) : List Cond := (Bundle.ownAtoms0 own ic X names).filter vx_no
def vx_atS (own : String) (ic : Nat) (X : String) (names : List String) : List Cond := (Bundle.ownAtoms own ic X names).filter vx_no
/-- a word that the tables alone decide, or a good one -/
def vx_ot (w : Cond) : Bool := w.onTables || goodWord w
theorem vx_ot_at {args a' : Array Value} {s U : State} {w : Cond} (hW : s.WarmedH U.vm) (hvm : s.vm = U.vm) (hg : vx_ot w = true) (h : w.before args s = true) : w.before a' U = true := by
  simp only [vx_ot, Bool.or_eq_true] at hg
  rcases hg with hg | hg
  · exact va_tabs hg hvm h
  · exact word_at hW (good_of_word hg) h
/-- a list's words: the good ones out of the method's own list, the others by premises of their own -/
theorem vx_hat {args : Array Value} {s : State} {L B : List Cond} (h1 : ∀ w ∈ L.filter goodWord, w.before args s = true) (h2 : ∀ w ∈ L.filter (fun w => !goodWord w), w ∈ B) (h3 : ∀ w ∈ B, w.before args s = true) : ∀ w ∈ L, w.before args s = true := by
  intro w hw
  by_cases g : goodWord w = true
  · exact h1 w (List.mem_filter.mpr ⟨hw, g⟩)
  · refine h3 w (h2 w (List.mem_filter.mpr ⟨hw, ?_⟩))
    show (!goodWord w) = true
    cases hgw : goodWord w
    · rfl
    · exact absurd hgw g
theorem vx_c {args : Array Value} {s : State} {w : Cond} {B : List Cond} (h : w.before args s = true) (t : ∀ w ∈ B, w.before args s = true) : ∀ w' ∈ w :: B, w'.before args s = true := fun w' h' => (List.mem_cons.mp h').elim (fun e => by rw [e]; exact h) (t w')
theorem vx_n {args : Array Value} {s : State} : ∀ w ∈ ([] : List Cond), w.before args s = true := fun _ h => nomatch h
theorem vx_own {args : Array Value} {s : State} {L : List Cond} (h1 : ∀ w ∈ L.filter vx_no, w.before args s = true)
    (hU : (Cond.isRef (.static Bundle.tN "UNASSIGNED_STACK" Bundle.steD)).before args s = true) (hN : (Cond.isRef (.static Bundle.tN "SUPPRESSED_SENTINEL" Bundle.listD)).before args s = true)
    (lU : (Cond.laysStatic Bundle.tN "UNASSIGNED_STACK" Bundle.steD).before args s = true) (lN : (Cond.laysStatic Bundle.tN "SUPPRESSED_SENTINEL" Bundle.listD).before args s = true) : ∀ w ∈ L, w.before args s = true := by
  intro w hw
  by_cases e1 : w = .isRef (.static Bundle.tN "UNASSIGNED_STACK" Bundle.steD)
  · rw [e1]; exact hU
  · by_cases e2 : w = .isRef (.static Bundle.tN "SUPPRESSED_SENTINEL" Bundle.listD)
    · rw [e2]; exact hN
    · by_cases e3 : w = .laysStatic Bundle.tN "UNASSIGNED_STACK" Bundle.steD
      · rw [e3]; exact lU
      · by_cases e4 : w = .laysStatic Bundle.tN "SUPPRESSED_SENTINEL" Bundle.listD
        · rw [e4]; exact lN
        · exact h1 w (List.mem_filter.mpr ⟨hw, by unfold vx_no; rw [decide_eq_true e1, decide_eq_true e2, decide_eq_true e3, decide_eq_true e4]; rfl⟩)
/-- where a static field lies, its class's statics cell in H -/
def vx_L (C n d : String) (A : Nat → Prop) (U : State) (H : Heap) : Prop := ∃ (c : ClassId) (k : Class) (i : Nat) (f : Field) (a : Nat) (cell : Cell), U.vm.findClass C = some c ∧ U.fieldFound? C n d = some (c, k, i, f) ∧ f.isStatic = true ∧ k.statics = some a ∧ H[a]? = some cell ∧ cell.vm.isStatics = true ∧ cell.cls = c ∧ f.slot < cell.slots.size ∧ k.staticTypes[f.slot]? = some f.type ∧ ¬ A a
theorem vx_L.moved {C n d : String} {A : Nat → Prop} {u U : State} {H : Heap} (hvm : u.vm.Alike U.vm) (h : vx_L C n d A u H) : vx_L C n d A U H := by
  obtain ⟨c, k, i, f, a, cell, h1, h2, h3, h4, h5, h6, h7, h8, h9, h10⟩ := h
  obtain ⟨k', hi', he⟩ := State.fieldFound?_setVm hvm h2
  exact ⟨c, k', i, f, a, cell, by rw [hvm.findClass]; exact h1, hi', h3, by rw [he]; exact h4, h5, h6, h7, h8, by rw [he]; exact h9, h10⟩
theorem vx_L.kept {C n d : String} {A : Nat → Prop} {U : State} {H H1 : Heap} (h : vx_L C n d A U H) (hq : ∀ a : Nat, a < H.size → ¬ A a → H1[a]? = H[a]?) : vx_L C n d A U H1 := by
  obtain ⟨c, k, i, f, a, cell, h1, h2, h3, h4, h5, h6, h7, h8, h9, h10⟩ := h
  exact ⟨c, k, i, f, a, cell, h1, h2, h3, h4, by rw [hq a (Array.getElem?_eq_some_iff.mp h5).1 h10]; exact h5, h6, h7, h8, h9, h10⟩
theorem vx_L.narrow {C n d : String} {A B : Nat → Prop} {U : State} {H : Heap} (h : vx_L C n d A U H) (hAB : ∀ q, B q → A q) : vx_L C n d B U H := by
  obtain ⟨c, k, i, f, a, cell, h1, h2, h3, h4, h5, h6, h7, h8, h9, h10⟩ := h
  exact ⟨c, k, i, f, a, cell, h1, h2, h3, h4, h5, h6, h7, h8, h9, fun z => h10 (hAB _ z)⟩
theorem vx_L.word {C n d : String} {A : Nat → Prop} {s : State} {args : Array Value} (h : vx_L C n d A s s.heap) : (Cond.laysStatic C n d).before args s = true := by
  obtain ⟨c, k, i, f, a, cell, h1, h2, h3, h4, h5, h6, h7, h8, h9, -⟩ := h
  show (Cond.laysStatic C n d).holds args s none s [] = true
  exact Cond.laysStatic_of h1 h2 h3 h4 h5 h6 h7 h8 h9
/-- .. and what it holds: null or some reference -/
def vx_Zq (C n d : String) (A : Nat → Prop) (U : State) (H : Heap) : Prop := va_Zq C n d A U H ∧ vx_L C n d A U H
theorem vx_Zq.moved {C n d : String} {A : Nat → Prop} {u U : State} {H : Heap} (hvm : u.vm.Alike U.vm) (h : vx_Zq C n d A u H) : vx_Zq C n d A U H := ⟨va_Zq.moved hvm h.1, vx_L.moved hvm h.2⟩
theorem vx_Zq.kept {C n d : String} {A : Nat → Prop} {U : State} {H H1 : Heap} (h : vx_Zq C n d A U H) (hq : ∀ a : Nat, a < H.size → ¬ A a → H1[a]? = H[a]?) : vx_Zq C n d A U H1 := ⟨va_Zq.kept h.1 hq, vx_L.kept h.2 hq⟩
theorem vx_Zq.narrow {C n d : String} {A B : Nat → Prop} {U : State} {H : Heap} (h : vx_Zq C n d A U H) (hAB : ∀ q, B q → A q) : vx_Zq C n d B U H := ⟨va_Zq.narrow h.1 hAB, vx_L.narrow h.2 hAB⟩
theorem vx_Zqof {args : Array Value} {s : State} {C n d : String} {A : Nat → Prop} (hl : (Cond.laysStatic C n d).before args s = true) (hini : (Cond.initialized C).before args s = true) (h : (Cond.isRef (.static C n d)).before args s = true) (hA : ∀ a : Nat, a < s.heap.size → ¬ A a) : vx_Zq C n d A s s.heap := by
  refine ⟨va_Zqof hl hini h hA, ?_⟩
  obtain ⟨c, k, i, f, a, cell, h1, h2, h3, h4, h5, h6, h7, h8, h9⟩ := Cond.laysStatic_spec hl
  exact ⟨c, k, i, f, a, cell, h1, h2, h3, h4, h5, h6, h7, h8, h9, hA a (Array.getElem?_eq_some_iff.mp h5).1⟩
theorem vx_isRef {C n d : String} {v : Value} {A : Nat → Prop} {s : State} {args : Array Value} (h : va_Z C n d v A s s.heap) (hv : v.isRef = true) : (Cond.isRef (.static C n d)).before args s = true := by
  obtain ⟨cf, kf, fi, f, a, cell, h1, h2, h3, h4, h5, h6, h7, -⟩ := h
  have he : (Term.static C n d).eval args s none [] s = some v := by
    simp [Term.eval, State.fieldNamed?, h1, h2, h4, h5, h6, h7]
  simp only [Cond.before, Cond.holds, Cond.value, he]
  cases v <;> simp_all [Value.isRef]
theorem vx_isRefq {C n d : String} {A : Nat → Prop} {s : State} {args : Array Value} (h : va_Zq C n d A s s.heap) : (Cond.isRef (.static C n d)).before args s = true := by
  rcases h with h | ⟨t, h⟩
  · exact vx_isRef h rfl
  · exact vx_isRef h rfl
/-- the same frame, seen from here: as if the method were called anew in this heap -/
theorem vx_rebase {T : State} (X : Stand p l e R s m args below meth c T locs cells slots) {R' : Room} (hf : R'.frames ≤ R.frames) (hl : R'.locals ≤ R.locals) (hc : cells + R'.cells ≤ R.cells) (hs : slots + R'.slots ≤ R.slots) :
    Stand p l e R' ((T.setVm s.vm).setFrames (.invoking m args :: below)) m args below meth c T [] 0 0 := by
  have htop : (T.setVm s.vm).topJava?.isSome := X.here.top
  have hF : ((T.setVm s.vm).setFrames (.invoking m args :: below)).frames = .invoking m args :: below := State.frames_setFrames _ (State.cur_lt_of_top htop)
  obtain ⟨g₀, hg0⟩ := Option.isSome_iff_exists.mp htop
  obtain ⟨r, hr⟩ := State.topJava?_eq_some.mp hg0
  have hl9 : e.platform.stackLimits (T.setVm s.vm).me = e.platform.stackLimits s.me := X.limits
  have hb9 : (T.setVm s.vm).me.stackBytes = s.me.stackBytes := X.bytes
  refine ⟨X.admits, X.cas, X.clock, hF, ?_, X.hears, X.method, X.code, X.here, X.tail, X.warmed, ?_, ?_, ?_⟩
  · have h := X.room
    have hU : ((T.setVm s.vm).setFrames (.invoking m args :: below)).localsInUse = s.localsInUse := by
      rw [State.localsInUse_invoking hF (meth := meth) (c := c) X.method X.code, State.localsInUse_invoking X.frames X.method X.code]
    simp only [State.hasRoom, Bool.and_eq_true, decide_eq_true_eq] at h ⊢
    obtain ⟨⟨⟨⟨h1, h2, h3, h4, h5, h6⟩, h7⟩, h8⟩, h9⟩ := h
    rw [X.frames, List.length_cons] at h2 h3
    have q1 := X.heapSize
    have q2 := X.used
    simp only [hF, hU, List.length_cons, State.stackLimits_setFrames, State.stackBytes_setFrames, hl9, hb9]
    refine ⟨⟨⟨⟨by omega, by omega, by omega, by omega, by omega, h6⟩, ?_⟩, ?_⟩, X.book⟩
    · show T.heap.size + R'.cells ≤ e.platform.maxCells
      omega
    · show T.slotsUsed + R'.slots ≤ e.platform.maxSlots
      omega
  · rw [State.stackLimits_setFrames]; rfl
  · rw [State.stackBytes_setFrames]; rfl
  · refine ⟨?_, Nat.le_refl _, Nat.le_refl _, ?_, ?_, fun a c9 h9 => ⟨c9, h9, rfl, rfl, fun _ _ => rfl⟩⟩
    · obtain ⟨t, ht, -⟩ := State.frames_cons hr
      show T.setVm s.vm = { ((T.setVm s.vm).setFrames (.invoking m args :: below)).setFrames (T.setVm s.vm).frames with heap := T.heap, slotsUsed := T.slotsUsed }
      rw [State.setFrames_setFrames, State.setFrames_self ht]
      rfl
    · show T.slotsUsed = T.slotsUsed + ((T.heap.toList.drop T.heap.size).map (·.slots.size)).sum
      rw [List.drop_eq_nil_of_le (Nat.le_of_eq Array.length_toList)]
      rfl
    · show ((T.heap.toList.drop T.heap.size).map (·.slots.size)).sum ≤ 0
      rw [List.drop_eq_nil_of_le (Nat.le_of_eq Array.length_toList)]
      exact Nat.le_refl _
end Ends
end VXA
/-! the search of a method's own table, where its classes may still be unresolved: a row passed, a row that takes it -/
theorem cx_go {Q : Handler → Pre} {E : CtlPost} {e : Env} {d : Bool} {acts : List Action} {s : State} {f : JFrame} {a : Addr} {x : ExceptionTableEntry} {t : List ExceptionTableEntry} {c : ClassId} {cell : Cell}
    (hx : covers x f.pc = true) (h0 : x.catchType ≠ 0) (hl : s.vm.ClassLinks e.platform f.method.cls x.catchType c) (hcell : s.heap[a]? = some cell) (hobj : ∀ k, cell.vm ≠ .statics k)
    (hk : ∃ k, s.vm.classes[cell.cls]? = some k) (hc : ∃ k, s.vm.classes[c]? = some k) :
    wp (findHandler.go f a (x :: t)) Q E e d acts s ↔
      if s.vm.assignable cell.cls c = true then Q (.found x.handlerPc) d acts (s.setVm (s.vm.noted f.method.cls x.catchType (.cls c)))
      else wp (findHandler.go f a t) Q E e d acts (s.setVm (s.vm.noted f.method.cls x.catchType (.cls c))) := by
  simp only [covers] at hx
  obtain ⟨g1, g2⟩ := (resolveClass_links e.toSetting hl).op (op := VmOp.resolveClass f.method.cls x.catchType) rfl
  have hal : s.vm.Alike (s.vm.noted f.method.cls x.catchType (.cls c)) := (Vm.Alike.refl s.vm).noted _ _ _
  obtain ⟨k1, hk1⟩ := hk
  obtain ⟨k2, hk2⟩ := hc
  obtain ⟨k1', hk1', -⟩ := hal.2.2 _ _ hk1
  obtain ⟨k2', hk2', -⟩ := hal.2.2 _ _ hk2
  have e1 : (s.vm.noted f.method.cls x.catchType (.cls c)).assignable cell.cls c = s.vm.assignable cell.cls c := by rw [hal.assignable]
  cases hv : s.vm.assignable cell.cls c <;> rw [hv] at e1 <;> simp [findHandler.go, hx, h0, g1, g2, hcell, hobj, hk1', hk2', e1, VmOp.dirties, VmOp.acts]
/-- a row ahead is passed: not at this pc, or its class doesn't take the object -/
def cx_pass (pl : Platform) (s0 : State) (d : ClassId) (pc : Nat) (thrown : ClassId) (y : ExceptionTableEntry) : Prop :=
  covers y pc = false ∨ (y.catchType ≠ 0 ∧ ∃ c, s0.vm.ClassLinks pl d y.catchType c ∧ s0.vm.assignable thrown c = false)
theorem cx_through {e : Env} {s0 : State} {f : JFrame} {a : Addr} {cell : Cell} (hobj : ∀ k, cell.vm ≠ .statics k) (hk0 : ∃ k, s0.vm.classes[cell.cls]? = some k)
    (x : ExceptionTableEntry) (rest : List ExceptionTableEntry) (hx : covers x f.pc = true) (h0 : x.catchType ≠ 0) {c : ClassId} (hl : s0.vm.ClassLinks e.platform f.method.cls x.catchType c) (hfit : s0.vm.assignable cell.cls c = true) :
    ∀ (pre : List ExceptionTableEntry) (S : State), s0.WarmedH S.vm → S.heap[a]? = some cell → (∀ y ∈ pre, cx_pass e.platform s0 f.method.cls f.pc cell.cls y) →
      ∃ vm', s0.WarmedH vm' ∧ ∀ (Q : Handler → Pre) (E : CtlPost) (d : Bool) (acts : List Action), wp (findHandler.go f a (pre ++ x :: rest)) Q E e d acts S ↔ Q (.found x.handlerPc) d acts (S.setVm vm') := by
  obtain ⟨k0, hk0⟩ := hk0
  intro pre
  induction pre with
  | nil =>
    intro S hW hcell _
    obtain ⟨k0', hk0', -⟩ := hW.alike.2.2 _ _ hk0
    obtain ⟨dk, _, _, kt, hd, _, _, _, _, hkt, _, hopen⟩ := hl.here
    obtain ⟨kt', hkt', -⟩ := hW.alike.2.2 _ _ hkt
    refine ⟨_, hW.noted hd hopen (State.rightAt_cls hl), fun Q E d acts => ?_⟩
    rw [List.nil_append, cx_go hx h0 (hW.classLinks hl) hcell hobj ⟨k0', hk0'⟩ ⟨kt', hkt'⟩, if_pos (by rw [hW.alike.assignable]; exact hfit)]
  | cons y ys ih =>
    intro S hW hcell hpass
    obtain ⟨k0', hk0', -⟩ := hW.alike.2.2 _ _ hk0
    have hrest : ∀ z ∈ ys, cx_pass e.platform s0 f.method.cls f.pc cell.cls z := fun z hz => hpass z (List.mem_cons_of_mem _ hz)
    by_cases hcov : covers y f.pc = true
    · rcases hpass y (List.mem_cons_self ..) with h | ⟨hy0, cy, hly, hno⟩
      · rw [h] at hcov; cases hcov
      · obtain ⟨dk, _, _, kt, hd, _, _, _, _, hkt, _, hopen⟩ := hly.here
        obtain ⟨kt', hkt', -⟩ := hW.alike.2.2 _ _ hkt
        obtain ⟨vm', hW', hq⟩ := ih (S.setVm (S.vm.noted f.method.cls y.catchType (.cls cy))) (hW.noted hd hopen (State.rightAt_cls hly)) hcell hrest
        refine ⟨vm', hW', fun Q E d acts => ?_⟩
        rw [List.cons_append, cx_go hcov hy0 (hW.classLinks hly) hcell hobj ⟨k0', hk0'⟩ ⟨kt', hkt'⟩, if_neg (by rw [hW.alike.assignable, hno]; decide)]
        exact hq Q E d acts
    · obtain ⟨vm', hW', hq⟩ := ih S hW hcell hrest
      refine ⟨vm', hW', fun Q E d acts => ?_⟩
      rw [List.cons_append, W.findHandler_go_skip (by simpa using hcov)]
      exact hq Q E d acts
/-- the object a is thrown over the frame g, a row of the method's table takes it: the walk goes on at the handler -/
theorem cx_caught {p : Program} {l : Launch} {e : Env} {R : Room} {s : State} {m : MethodId} {args : Array Value} {below : List Frame} {meth : Method} {c : Code} {T : State} {locs : List Loc} {cells slots : Nat}
    (X : Stand p l e R s m args below meth c T locs cells slots) (a : Addr) {g : JFrame} (hg : g.method = m) {cell : Cell} (hcell : T.heap[a]? = some cell) (hobj : cell.vm.isStatics = false)
    (hk0 : ∃ k, s.vm.classes[cell.cls]? = some k) (pre : List ExceptionTableEntry) (x : ExceptionTableEntry) (rest : List ExceptionTableEntry) (hsplit : c.exceptionTable.toList = pre ++ x :: rest)
    (hpass : ∀ y ∈ pre, cx_pass e.platform s m.cls g.pc cell.cls y) (hx : covers x g.pc = true) (h0 : x.catchType ≠ 0) {cc : ClassId} (hl : s.vm.ClassLinks e.platform m.cls x.catchType cc) (hfit : s.vm.assignable cell.cls cc = true) :
    ∃ vm', Stand p l e R s m args below meth c (T.setVm vm') locs cells slots ∧
      ∀ target, Steps p.tables e below ((T.setVm vm').setTop { g with pc := x.handlerPc, stack := [.ref a] }) target → Steps p.tables e below ((T.setTop g).pushFrame (.throwing a)) target := by
  subst hg
  obtain ⟨vm', hW', hq⟩ := cx_through (e := e) (s0 := s) (f := g) (a := a) (cell := cell) (VmData.ne_statics_of hobj) hk0 x rest hx h0 hl hfit pre ((T.setTop g).pushFrame (.throwing a)) X.warmed hcell hpass
  refine ⟨vm', X.noted hW', fun target hrest => ?_⟩
  have hfind : ∀ (Q : Handler → Pre) (E : CtlPost) (d : Bool) (acts : List Action), wp (findHandler g a) Q E e d acts ((T.setTop g).pushFrame (.throwing a)) ↔ Q (.found x.handlerPc) d acts (((T.setTop g).pushFrame (.throwing a)).setVm vm') := by
    intro Q E d acts
    have hm9 : ((T.setTop g).pushFrame (.throwing a)).vm.method? g.method = some meth := X.method'
    rw [W.findHandler_eq (meth := meth) (code := c) hm9 X.code, hsplit]
    exact hq Q E d acts
  have hcatch : ∀ r : List Frame, (stepThrowing e ((T.setTop g).pushFrame (.throwing a)) a (.java g :: r)).Is ((((T.setTop g).pushFrame (.throwing a)).setVm vm').setFrames (.java { g with pc := x.handlerPc, stack := [.ref a] } :: r)) [] := by
    intro r
    simp only [stepThrowing, searchFrame, vmDo]
    generalize hr : Sem.go _ e false [] _ = res
    obtain ⟨as, rfl, ha⟩ := Sem.eq_ok_of hr (a := Handler.found x.handlerPc) (s' := ((T.setTop g).pushFrame (.throwing a)).setVm vm') (acts' := []) (by simp [hfind _ _ _ _])
    exact ⟨rfl, ha⟩
  have h := X.here
  obtain ⟨hgo, hw⟩ := h.throwing a
  refine Steps.head hgo hw ?_
  rw [stepThread_throwing (frames_entered h.top _), (hcatch _).1]
  obtain ⟨g0, hg0⟩ := Option.isSome_iff_exists.mp h.top
  obtain ⟨r, hr⟩ := State.topJava?_eq_some.mp hg0
  have hr' : (T.setVm vm').frames = .java g0 :: r := hr
  rw [State.setTop_of_frames _ hr'] at hrest
  have q1 : ∀ (u : State) (F G : List Frame), ((u.setFrames F).setVm vm').setFrames G = (u.setVm vm').setFrames G := by
    intro u F G
    show ((u.setVm vm').setFrames F).setFrames G = _
    rw [State.setFrames_setFrames]
  rw [hr, List.tail_cons, State.pushFrame, q1, State.setTop_of_frames _ hr, q1]
  exact hrest
end
section
def RX0 : String := "ReadSide$Command"
def TX0 : u_T := fun k => match k with
  | 0 => ("ReadSide$Command", "kind", "I", true)
  | 1 => ("ReadSide$Command", "item", "I", true)
  | 2 => ("ReadSide$Command", "customer", "I", true)
  | 3 => ("ReadSide$Command", "amount", "I", true)
  | _ => ("ReadSide$Command", "needs", "[I", true)
def tyX0 : Nat → FieldType := fun k => match k with
  | 0 => .int
  | 1 => .int
  | 2 => .int
  | 3 => .int
  | _ => .array .int
abbrev wsX00 : List Cond := u_ws RX0 TX0 5
theorem nmX0 : ∀ a, a < 5 → ∀ b, b < 5 → a ≠ b → (TX0 a).2.1 ≠ (TX0 b).2.1 := by decide +kernel
theorem tyX0_ok : ∀ k, k < 5 → parseFieldDescriptor (TX0 k).2.2.1 = some (tyX0 k) := by decide +kernel
abbrev cX0_init : ByteArray := prog_2_method_1_code
def yX0_init : MethodName := ⟨RX0, "<init>", "(IIII[I)V"⟩
def RX1 : String := "ReadSide$Log"
def TX1 : u_T := fun k => match k with
  | 0 => ("ReadSide$Log", "commands", "[LReadSide$Command;", true)
  | 1 => ("ReadSide$Log", "end", "I", false)
  | _ => ("ReadSide$Log", "trimmed", "I", false)
def tyX1 : Nat → FieldType := fun k => match k with
  | 0 => .array (.object "ReadSide$Command")
  | 1 => .int
  | _ => .int
abbrev wsX10 : List Cond := u_ws RX1 TX1 3
theorem nmX1 : ∀ a, a < 3 → ∀ b, b < 3 → a ≠ b → (TX1 a).2.1 ≠ (TX1 b).2.1 := by decide +kernel
theorem tyX1_ok : ∀ k, k < 3 → parseFieldDescriptor (TX1 k).2.2.1 = some (tyX1 k) := by decide +kernel
abbrev cX1_init : ByteArray := prog_3_method_1_code
def yX1_init : MethodName := ⟨RX1, "<init>", "()V"⟩
abbrev cX1_commandAt : ByteArray := prog_3_method_2_code
def yX1_commandAt : MethodName := ⟨RX1, "commandAt", "(I)LReadSide$Command;"⟩
abbrev cX1_append : ByteArray := prog_3_method_3_code
def yX1_append : MethodName := ⟨RX1, "append", "(LReadSide$Command;)V"⟩
abbrev cX1_dropTo : ByteArray := prog_3_method_4_code
def yX1_dropTo : MethodName := ⟨RX1, "dropTo", "(I)I"⟩
def RX2 : String := "ReadSide$Read"
def TX2 : u_T := fun k => match k with
  | 0 => ("ReadSide$Read", "session", "I", true)
  | 1 => ("ReadSide$Read", "stale", "I", true)
  | 2 => ("ReadSide$Read", "deadline", "I", true)
  | 3 => ("ReadSide$Read", "kind", "I", true)
  | 4 => ("ReadSide$Read", "a", "I", true)
  | 5 => ("ReadSide$Read", "token", "J", true)
  | 6 => ("ReadSide$Read", "state", "I", false)
  | 7 => ("ReadSide$Read", "replica", "I", false)
  | 8 => ("ReadSide$Read", "endTime", "I", false)
  | 9 => ("ReadSide$Read", "answer", "J", false)
  | _ => ("ReadSide$Read", "answeredAt", "J", false)
def tyX2 : Nat → FieldType := fun k => match k with
  | 0 => .int
  | 1 => .int
  | 2 => .int
  | 3 => .int
  | 4 => .int
  | 5 => .long
  | 6 => .int
  | 7 => .int
  | 8 => .int
  | 9 => .long
  | _ => .long
abbrev wsX20 : List Cond := u_ws RX2 TX2 11
theorem nmX2 : ∀ a, a < 11 → ∀ b, b < 11 → a ≠ b → (TX2 a).2.1 ≠ (TX2 b).2.1 := by decide +kernel
theorem tyX2_ok : ∀ k, k < 11 → parseFieldDescriptor (TX2 k).2.2.1 = some (tyX2 k) := by decide +kernel
abbrev cX2_init : ByteArray := prog_4_method_1_code
def yX2_init : MethodName := ⟨RX2, "<init>", "(IJIIII)V"⟩
def RX3 : String := "ReadSide$Replica"
def TX3 : u_T := fun k => match k with
  | 0 => ("ReadSide$Replica", "state", "LReadSide$State;", true)
  | 1 => ("ReadSide$Replica", "keptState", "LReadSide$State;", true)
  | 2 => ("ReadSide$Replica", "at", "[I", true)
  | 3 => ("ReadSide$Replica", "kept", "[I", true)
  | 4 => ("ReadSide$Replica", "speed", "I", false)
  | 5 => ("ReadSide$Replica", "nextPartition", "I", false)
  | _ => ("ReadSide$Replica", "isUp", "Z", false)
def tyX3 : Nat → FieldType := fun k => match k with
  | 0 => .object "ReadSide$State"
  | 1 => .object "ReadSide$State"
  | 2 => .array .int
  | 3 => .array .int
  | 4 => .int
  | 5 => .int
  | _ => .boolean
abbrev wsX30 : List Cond := u_ws RX3 TX3 7
theorem nmX3 : ∀ a, a < 7 → ∀ b, b < 7 → a ≠ b → (TX3 a).2.1 ≠ (TX3 b).2.1 := by decide +kernel
theorem tyX3_ok : ∀ k, k < 7 → parseFieldDescriptor (TX3 k).2.2.1 = some (tyX3 k) := by decide +kernel
abbrev cX3_init : ByteArray := prog_5_method_1_code
def yX3_init : MethodName := ⟨RX3, "<init>", "()V"⟩
abbrev cX3_keep : ByteArray := prog_5_method_2_code
def yX3_keep : MethodName := ⟨RX3, "keep", "()V"⟩
abbrev cX3_comeAgain : ByteArray := prog_5_method_3_code
def yX3_comeAgain : MethodName := ⟨RX3, "comeAgain", "()V"⟩
def RX4 : String := "ReadSide$Session"
def TX4 : u_T := fun k => match k with
  | 0 => ("ReadSide$Session", "wrote", "[I", true)
  | 1 => ("ReadSide$Session", "saw", "[I", true)
  | 2 => ("ReadSide$Session", "mode", "I", false)
  | _ => ("ReadSide$Session", "home", "I", false)
def tyX4 : Nat → FieldType := fun k => match k with
  | 0 => .array .int
  | 1 => .array .int
  | 2 => .int
  | _ => .int
abbrev wsX40 : List Cond := u_ws RX4 TX4 4
theorem nmX4 : ∀ a, a < 4 → ∀ b, b < 4 → a ≠ b → (TX4 a).2.1 ≠ (TX4 b).2.1 := by decide +kernel
theorem tyX4_ok : ∀ k, k < 4 → parseFieldDescriptor (TX4 k).2.2.1 = some (tyX4 k) := by decide +kernel
abbrev cX4_init : ByteArray := prog_6_method_1_code
def yX4_init : MethodName := ⟨RX4, "<init>", "()V"⟩
abbrev cX4_needsNow : ByteArray := prog_6_method_2_code
def yX4_needsNow : MethodName := ⟨RX4, "needsNow", "()[I"⟩
abbrev cX4_see : ByteArray := prog_6_method_3_code
def yX4_see : MethodName := ⟨RX4, "see", "([I)V"⟩
def RX5 : String := "ReadSide$State"
def TX5 : u_T := fun k => match k with
  | 0 => ("ReadSide$State", "stock", "[I", true)
  | 1 => ("ReadSide$State", "reserved", "[I", true)
  | 2 => ("ReadSide$State", "sold", "[I", true)
  | 3 => ("ReadSide$State", "price", "[I", true)
  | 4 => ("ReadSide$State", "paid", "[J", true)
  | 5 => ("ReadSide$State", "refusals", "[I", true)
  | _ => ("ReadSide$State", "holds", "[I", true)
def tyX5 : Nat → FieldType := fun k => match k with
  | 0 => .array .int
  | 1 => .array .int
  | 2 => .array .int
  | 3 => .array .int
  | 4 => .array .long
  | 5 => .array .int
  | _ => .array .int
abbrev wsX50 : List Cond := u_ws RX5 TX5 7
theorem nmX5 : ∀ a, a < 7 → ∀ b, b < 7 → a ≠ b → (TX5 a).2.1 ≠ (TX5 b).2.1 := by decide +kernel
theorem tyX5_ok : ∀ k, k < 7 → parseFieldDescriptor (TX5 k).2.2.1 = some (tyX5 k) := by decide +kernel
abbrev cX5_init : ByteArray := prog_7_method_1_code
def yX5_init : MethodName := ⟨RX5, "<init>", "()V"⟩
abbrev cX5_becomeLike : ByteArray := prog_7_method_2_code
def yX5_becomeLike : MethodName := ⟨RX5, "becomeLike", "(LReadSide$State;)V"⟩
abbrev cX5_take : ByteArray := prog_7_method_3_code
def yX5_take : MethodName := ⟨RX5, "take", "(LReadSide$Command;)V"⟩
abbrev cX5_receive : ByteArray := prog_7_method_4_code
def yX5_receive : MethodName := ⟨RX5, "receive", "(II)V"⟩
abbrev cX5_reserve : ByteArray := prog_7_method_5_code
def yX5_reserve : MethodName := ⟨RX5, "reserve", "(III)V"⟩
abbrev cX5_ship : ByteArray := prog_7_method_6_code
def yX5_ship : MethodName := ⟨RX5, "ship", "(III)V"⟩
abbrev cX5_release : ByteArray := prog_7_method_7_code
def yX5_release : MethodName := ⟨RX5, "release", "(III)V"⟩
abbrev cX5_answerTo : ByteArray := prog_7_method_8_code
def yX5_answerTo : MethodName := ⟨RX5, "answerTo", "(III)J"⟩
abbrev cX5_heldBy : ByteArray := prog_7_method_9_code
def yX5_heldBy : MethodName := ⟨RX5, "heldBy", "(I)J"⟩
abbrev cX5_itemRanked : ByteArray := prog_7_method_10_code
def yX5_itemRanked : MethodName := ⟨RX5, "itemRanked", "(I)I"⟩
abbrev cX5_worth : ByteArray := prog_7_method_11_code
def yX5_worth : MethodName := ⟨RX5, "worth", "(II)J"⟩
def RX6 : String := "ReadSide"
def TX6 : u_T := fun k => match k with
  | 0 => ("ReadSide", "logs", "[LReadSide$Log;", true)
  | 1 => ("ReadSide", "replicas", "[LReadSide$Replica;", true)
  | 2 => ("ReadSide", "sessions", "[LReadSide$Session;", true)
  | 3 => ("ReadSide", "reads", "[LReadSide$Read;", true)
  | 4 => ("ReadSide", "waiting", "[LReadSide$Read;", true)
  | 5 => ("ReadSide", "asked", "I", false)
  | 6 => ("ReadSide", "waitingNow", "I", false)
  | 7 => ("ReadSide", "answered", "I", false)
  | 8 => ("ReadSide", "failed", "I", false)
  | _ => ("ReadSide", "time", "I", false)
def tyX6 : Nat → FieldType := fun k => match k with
  | 0 => .array (.object "ReadSide$Log")
  | 1 => .array (.object "ReadSide$Replica")
  | 2 => .array (.object "ReadSide$Session")
  | 3 => .array (.object "ReadSide$Read")
  | 4 => .array (.object "ReadSide$Read")
  | 5 => .int
  | 6 => .int
  | 7 => .int
  | 8 => .int
  | _ => .int
abbrev wsX60 : List Cond := u_ws RX6 TX6 10
theorem nmX6 : ∀ a, a < 10 → ∀ b, b < 10 → a ≠ b → (TX6 a).2.1 ≠ (TX6 b).2.1 := by decide +kernel
theorem tyX6_ok : ∀ k, k < 10 → parseFieldDescriptor (TX6 k).2.2.1 = some (tyX6 k) := by decide +kernel
abbrev cX6_init : ByteArray := prog_1_method_1_code
def yX6_init : MethodName := ⟨RX6, "<init>", "(II)V"⟩
abbrev cX6_mode : ByteArray := prog_1_method_2_code
def yX6_mode : MethodName := ⟨RX6, "mode", "(II)I"⟩
abbrev cX6_home : ByteArray := prog_1_method_3_code
def yX6_home : MethodName := ⟨RX6, "home", "(II)I"⟩
abbrev cX6_command : ByteArray := prog_1_method_4_code
def yX6_command : MethodName := ⟨RX6, "command", "(IIIII)J"⟩
abbrev cX6_step : ByteArray := prog_1_method_5_code
def yX6_step : MethodName := ⟨RX6, "step", "(II)I"⟩
abbrev cX6_speed : ByteArray := prog_1_method_6_code
def yX6_speed : MethodName := ⟨RX6, "speed", "(II)I"⟩
abbrev cX6_ticks : ByteArray := prog_1_method_7_code
def yX6_ticks : MethodName := ⟨RX6, "ticks", "(I)I"⟩
abbrev cX6_up : ByteArray := prog_1_method_8_code
def yX6_up : MethodName := ⟨RX6, "up", "(IZ)Z"⟩
abbrev cX6_snapshot : ByteArray := prog_1_method_9_code
def yX6_snapshot : MethodName := ⟨RX6, "snapshot", "(I)I"⟩
abbrev cX6_crash : ByteArray := prog_1_method_10_code
def yX6_crash : MethodName := ⟨RX6, "crash", "(I)I"⟩
abbrev cX6_trim : ByteArray := prog_1_method_11_code
def yX6_trim : MethodName := ⟨RX6, "trim", "()I"⟩
abbrev cX6_ask : ByteArray := prog_1_method_12_code
def yX6_ask : MethodName := ⟨RX6, "ask", "(IJIIII)I"⟩
abbrev cX6_read : ByteArray := prog_1_method_13_code
def yX6_read : MethodName := ⟨RX6, "read", "(II)J"⟩
abbrev cX6_value : ByteArray := prog_1_method_14_code
def yX6_value : MethodName := ⟨RX6, "value", "(III)J"⟩
abbrev cX6_at : ByteArray := prog_1_method_15_code
def yX6_at : MethodName := ⟨RX6, "at", "(II)I"⟩
abbrev cX6_kept : ByteArray := prog_1_method_16_code
def yX6_kept : MethodName := ⟨RX6, "kept", "(II)I"⟩
abbrev cX6_log : ByteArray := prog_1_method_17_code
def yX6_log : MethodName := ⟨RX6, "log", "(II)I"⟩
abbrev cX6_logged : ByteArray := prog_1_method_18_code
def yX6_logged : MethodName := ⟨RX6, "logged", "(III)I"⟩
abbrev cX6_session : ByteArray := prog_1_method_19_code
def yX6_session : MethodName := ⟨RX6, "session", "(III)I"⟩
abbrev cX6_told : ByteArray := prog_1_method_20_code
def yX6_told : MethodName := ⟨RX6, "told", "(JI)I"⟩
abbrev cX6_count : ByteArray := prog_1_method_21_code
def yX6_count : MethodName := ⟨RX6, "count", "(I)I"⟩
abbrev cX6_needIndex : ByteArray := prog_1_method_22_code
def yX6_needIndex : MethodName := ⟨RX6, "needIndex", "(II)V"⟩
abbrev cX6_needNumber : ByteArray := prog_1_method_23_code
def yX6_needNumber : MethodName := ⟨RX6, "needNumber", "(III)V"⟩
abbrev cX6_needQuestion : ByteArray := prog_1_method_24_code
def yX6_needQuestion : MethodName := ⟨RX6, "needQuestion", "(II)V"⟩
abbrev cX6_needToken : ByteArray := prog_1_method_25_code
def yX6_needToken : MethodName := ⟨RX6, "needToken", "(J)V"⟩
abbrev cX6_checkOf : ByteArray := prog_1_method_26_code
def yX6_checkOf : MethodName := ⟨RX6, "checkOf", "(J)J"⟩
abbrev cX6_tokenOf : ByteArray := prog_1_method_27_code
def yX6_tokenOf : MethodName := ⟨RX6, "tokenOf", "([I)J"⟩
abbrev cX6_positionIn : ByteArray := prog_1_method_28_code
def yX6_positionIn : MethodName := ⟨RX6, "positionIn", "(JI)I"⟩
abbrev cX6_withPosition : ByteArray := prog_1_method_29_code
def yX6_withPosition : MethodName := ⟨RX6, "withPosition", "([III)[I"⟩
abbrev cX6_covers : ByteArray := prog_1_method_30_code
def yX6_covers : MethodName := ⟨RX6, "covers", "([I[I)Z"⟩
abbrev cX6_sum : ByteArray := prog_1_method_31_code
def yX6_sum : MethodName := ⟨RX6, "sum", "([I)I"⟩
abbrev cX6_leastKept : ByteArray := prog_1_method_32_code
def yX6_leastKept : MethodName := ⟨RX6, "leastKept", "(I)I"⟩
abbrev cX6_takeStep : ByteArray := prog_1_method_33_code
def yX6_takeStep : MethodName := ⟨RX6, "takeStep", "(II)I"⟩
abbrev cX6_takeStepsOfTick : ByteArray := prog_1_method_34_code
def yX6_takeStepsOfTick : MethodName := ⟨RX6, "takeStepsOfTick", "(I)I"⟩
abbrev cX6_firstThatMay : ByteArray := prog_1_method_35_code
def yX6_firstThatMay : MethodName := ⟨RX6, "firstThatMay", "(LReadSide$Read;)I"⟩
abbrev cX6_mayAnswer : ByteArray := prog_1_method_36_code
def yX6_mayAnswer : MethodName := ⟨RX6, "mayAnswer", "(LReadSide$Replica;LReadSide$Read;)Z"⟩
abbrev cX6_leastFor : ByteArray := prog_1_method_37_code
def yX6_leastFor : MethodName := ⟨RX6, "leastFor", "(LReadSide$Read;I)I"⟩
abbrev cX6_lookAtWaiting : ByteArray := prog_1_method_38_code
def yX6_lookAtWaiting : MethodName := ⟨RX6, "lookAtWaiting", "(I)V"⟩
abbrev cX6_failOverdue : ByteArray := prog_1_method_39_code
def yX6_failOverdue : MethodName := ⟨RX6, "failOverdue", "()V"⟩
abbrev cX6_forgetEnded : ByteArray := prog_1_method_40_code
def yX6_forgetEnded : MethodName := ⟨RX6, "forgetEnded", "()V"⟩
abbrev cX6_answer : ByteArray := prog_1_method_41_code
def yX6_answer : MethodName := ⟨RX6, "answer", "(LReadSide$Read;I)V"⟩
abbrev cX6_fail : ByteArray := prog_1_method_42_code
def yX6_fail : MethodName := ⟨RX6, "fail", "(LReadSide$Read;)V"⟩
def RX7 : String := "ReadSideModel"
def TX7 : u_T := fun k => match k with
  | 0 => ("ReadSideModel", "parts", "I", true)
  | 1 => ("ReadSideModel", "replicas", "I", true)
  | 2 => ("ReadSideModel", "thrown", "I", false)
  | 3 => ("ReadSideModel", "time", "I", false)
  | 4 => ("ReadSideModel", "ends", "[I", true)
  | 5 => ("ReadSideModel", "trimmed", "[I", true)
  | 6 => ("ReadSideModel", "kinds", "[I", true)
  | 7 => ("ReadSideModel", "items", "[I", true)
  | 8 => ("ReadSideModel", "customers", "[I", true)
  | 9 => ("ReadSideModel", "amounts", "[I", true)
  | 10 => ("ReadSideModel", "needs", "[I", true)
  | 11 => ("ReadSideModel", "stock", "[I", true)
  | 12 => ("ReadSideModel", "reserved", "[I", true)
  | 13 => ("ReadSideModel", "sold", "[I", true)
  | 14 => ("ReadSideModel", "price", "[I", true)
  | 15 => ("ReadSideModel", "holds", "[I", true)
  | 16 => ("ReadSideModel", "paid", "[J", true)
  | 17 => ("ReadSideModel", "refusals", "[I", true)
  | 18 => ("ReadSideModel", "at", "[I", true)
  | 19 => ("ReadSideModel", "speeds", "[I", true)
  | 20 => ("ReadSideModel", "next", "[I", true)
  | 21 => ("ReadSideModel", "up", "[Z", true)
  | 22 => ("ReadSideModel", "modes", "[I", true)
  | 23 => ("ReadSideModel", "homes", "[I", true)
  | 24 => ("ReadSideModel", "wrote", "[I", true)
  | 25 => ("ReadSideModel", "saw", "[I", true)
  | 26 => ("ReadSideModel", "reads", "I", false)
  | 27 => ("ReadSideModel", "state", "[I", true)
  | 28 => ("ReadSideModel", "session", "[I", true)
  | 29 => ("ReadSideModel", "needed", "[I", true)
  | 30 => ("ReadSideModel", "stale", "[I", true)
  | 31 => ("ReadSideModel", "patience", "[I", true)
  | 32 => ("ReadSideModel", "asked", "[I", true)
  | 33 => ("ReadSideModel", "question", "[I", true)
  | 34 => ("ReadSideModel", "about", "[I", true)
  | 35 => ("ReadSideModel", "by", "[I", true)
  | 36 => ("ReadSideModel", "answer", "[J", true)
  | 37 => ("ReadSideModel", "vector", "[J", true)
  | _ => ("ReadSideModel", "ended", "[I", true)
def tyX7 : Nat → FieldType := fun k => match k with
  | 0 => .int
  | 1 => .int
  | 2 => .int
  | 3 => .int
  | 4 => .array .int
  | 5 => .array .int
  | 6 => .array .int
  | 7 => .array .int
  | 8 => .array .int
  | 9 => .array .int
  | 10 => .array .int
  | 11 => .array .int
  | 12 => .array .int
  | 13 => .array .int
  | 14 => .array .int
  | 15 => .array .int
  | 16 => .array .long
  | 17 => .array .int
  | 18 => .array .int
  | 19 => .array .int
  | 20 => .array .int
  | 21 => .array .boolean
  | 22 => .array .int
  | 23 => .array .int
  | 24 => .array .int
  | 25 => .array .int
  | 26 => .int
  | 27 => .array .int
  | 28 => .array .int
  | 29 => .array .int
  | 30 => .array .int
  | 31 => .array .int
  | 32 => .array .int
  | 33 => .array .int
  | 34 => .array .int
  | 35 => .array .int
  | 36 => .array .long
  | 37 => .array .long
  | _ => .array .int
abbrev wsX70 : List Cond := u_ws RX7 TX7 39
theorem nmX7 : ∀ a, a < 39 → ∀ b, b < 39 → a ≠ b → (TX7 a).2.1 ≠ (TX7 b).2.1 := by decide +kernel
theorem tyX7_ok : ∀ k, k < 39 → parseFieldDescriptor (TX7 k).2.2.1 = some (tyX7 k) := by decide +kernel
abbrev cX7_init : ByteArray := prog_9_method_1_code
def yX7_init : MethodName := ⟨RX7, "<init>", "(II)V"⟩
abbrev cX7_lesser : ByteArray := prog_9_method_2_code
def yX7_lesser : MethodName := ⟨RX7, "lesser", "(II)I"⟩
abbrev cX7_greater : ByteArray := prog_9_method_3_code
def yX7_greater : MethodName := ⟨RX7, "greater", "(II)I"⟩
abbrev cX7_thrown : ByteArray := prog_9_method_4_code
def yX7_thrown : MethodName := ⟨RX7, "thrown", "()I"⟩
abbrev cX7_in : ByteArray := prog_9_method_5_code
def yX7_in : MethodName := ⟨RX7, "in", "(JJJ)Z"⟩
abbrev cX7_check : ByteArray := prog_9_method_6_code
def yX7_check : MethodName := ⟨RX7, "check", "(J)J"⟩
abbrev cX7_tokenOf : ByteArray := prog_9_method_7_code
def yX7_tokenOf : MethodName := ⟨RX7, "tokenOf", "(III)J"⟩
abbrev cX7_position : ByteArray := prog_9_method_8_code
def yX7_position : MethodName := ⟨RX7, "position", "(JI)I"⟩
abbrev cX7_isToken : ByteArray := prog_9_method_9_code
def yX7_isToken : MethodName := ⟨RX7, "isToken", "(J)Z"⟩
abbrev cX7_isSession : ByteArray := prog_9_method_10_code
def yX7_isSession : MethodName := ⟨RX7, "isSession", "(I)Z"⟩
abbrev cX7_isReplica : ByteArray := prog_9_method_11_code
def yX7_isReplica : MethodName := ⟨RX7, "isReplica", "(I)Z"⟩
abbrev cX7_isPart : ByteArray := prog_9_method_12_code
def yX7_isPart : MethodName := ⟨RX7, "isPart", "(I)Z"⟩
abbrev cX7_mode : ByteArray := prog_9_method_13_code
def yX7_mode : MethodName := ⟨RX7, "mode", "(II)I"⟩
abbrev cX7_home : ByteArray := prog_9_method_14_code
def yX7_home : MethodName := ⟨RX7, "home", "(II)I"⟩
abbrev cX7_command : ByteArray := prog_9_method_15_code
def yX7_command : MethodName := ⟨RX7, "command", "(IIIII)J"⟩
abbrev cX7_take : ByteArray := prog_9_method_16_code
def yX7_take : MethodName := ⟨RX7, "take", "(II)V"⟩
abbrev cX7_covers : ByteArray := prog_9_method_17_code
def yX7_covers : MethodName := ⟨RX7, "covers", "([III)Z"⟩
abbrev cX7_advance : ByteArray := prog_9_method_18_code
def yX7_advance : MethodName := ⟨RX7, "advance", "(II)I"⟩
abbrev cX7_step : ByteArray := prog_9_method_19_code
def yX7_step : MethodName := ⟨RX7, "step", "(II)I"⟩
abbrev cX7_speed : ByteArray := prog_9_method_20_code
def yX7_speed : MethodName := ⟨RX7, "speed", "(II)I"⟩
abbrev cX7_tick : ByteArray := prog_9_method_21_code
def yX7_tick : MethodName := ⟨RX7, "tick", "()I"⟩
abbrev cX7_fail : ByteArray := prog_9_method_22_code
def yX7_fail : MethodName := ⟨RX7, "fail", "(I)V"⟩
abbrev cX7_ticks : ByteArray := prog_9_method_23_code
def yX7_ticks : MethodName := ⟨RX7, "ticks", "(I)I"⟩
abbrev cX7_up : ByteArray := prog_9_method_24_code
def yX7_up : MethodName := ⟨RX7, "up", "(IZ)Z"⟩
abbrev cX7_copy : ByteArray := prog_9_method_25_code
def yX7_copy : MethodName := ⟨RX7, "copy", "(II)V"⟩
abbrev cX7_sum : ByteArray := prog_9_method_26_code
def yX7_sum : MethodName := ⟨RX7, "sum", "(I)I"⟩
abbrev cX7_snapshot : ByteArray := prog_9_method_27_code
def yX7_snapshot : MethodName := ⟨RX7, "snapshot", "(I)I"⟩
abbrev cX7_crash : ByteArray := prog_9_method_28_code
def yX7_crash : MethodName := ⟨RX7, "crash", "(I)I"⟩
abbrev cX7_trim : ByteArray := prog_9_method_29_code
def yX7_trim : MethodName := ⟨RX7, "trim", "()I"⟩
abbrev cX7_isQuestion : ByteArray := prog_9_method_30_code
def yX7_isQuestion : MethodName := ⟨RX7, "isQuestion", "(II)Z"⟩
abbrev cX7_tell : ByteArray := prog_9_method_31_code
def yX7_tell : MethodName := ⟨RX7, "tell", "(III)J"⟩
abbrev cX7_ranked : ByteArray := prog_9_method_32_code
def yX7_ranked : MethodName := ⟨RX7, "ranked", "(II)I"⟩
abbrev cX7_may : ByteArray := prog_9_method_33_code
def yX7_may : MethodName := ⟨RX7, "may", "(II)Z"⟩
abbrev cX7_answer : ByteArray := prog_9_method_34_code
def yX7_answer : MethodName := ⟨RX7, "answer", "(II)V"⟩
abbrev cX7_look : ByteArray := prog_9_method_35_code
def yX7_look : MethodName := ⟨RX7, "look", "(I)V"⟩
abbrev cX7_waiting : ByteArray := prog_9_method_36_code
def yX7_waiting : MethodName := ⟨RX7, "waiting", "()I"⟩
abbrev cX7_ask : ByteArray := prog_9_method_37_code
def yX7_ask : MethodName := ⟨RX7, "ask", "(IJIIII)I"⟩
abbrev cX7_read : ByteArray := prog_9_method_38_code
def yX7_read : MethodName := ⟨RX7, "read", "(II)J"⟩
abbrev cX7_value : ByteArray := prog_9_method_39_code
def yX7_value : MethodName := ⟨RX7, "value", "(III)J"⟩
abbrev cX7_at : ByteArray := prog_9_method_40_code
def yX7_at : MethodName := ⟨RX7, "at", "(II)I"⟩
abbrev cX7_kept : ByteArray := prog_9_method_41_code
def yX7_kept : MethodName := ⟨RX7, "kept", "(II)I"⟩
abbrev cX7_log : ByteArray := prog_9_method_42_code
def yX7_log : MethodName := ⟨RX7, "log", "(II)I"⟩
abbrev cX7_logged : ByteArray := prog_9_method_43_code
def yX7_logged : MethodName := ⟨RX7, "logged", "(III)I"⟩
abbrev cX7_session : ByteArray := prog_9_method_44_code
def yX7_session : MethodName := ⟨RX7, "session", "(III)I"⟩
abbrev cX7_told : ByteArray := prog_9_method_45_code
def yX7_told : MethodName := ⟨RX7, "told", "(JI)I"⟩
abbrev cX7_count : ByteArray := prog_9_method_46_code
def yX7_count : MethodName := ⟨RX7, "count", "(I)I"⟩
def RJx8e188 : String := "java/lang/Cloneable"
def TJx8e188 : u_T := fun k => match k with
  | _ => ("", "", "", false)
def tyJx8e188 : Nat → FieldType := fun k => match k with
  | _ => .int
abbrev wsJx8e1880 : List Cond := u_ws RJx8e188 TJx8e188 0
theorem nmJx8e188 : ∀ a, a < 0 → ∀ b, b < 0 → a ≠ b → (TJx8e188 a).2.1 ≠ (TJx8e188 b).2.1 := by decide +kernel
theorem tyJx8e188_ok : ∀ k, k < 0 → parseFieldDescriptor (TJx8e188 k).2.2.1 = some (tyJx8e188 k) := by decide +kernel
def RJ9 : String := "java/lang/Math"
def TJ9 : u_T := fun k => match k with
  | _ => ("", "", "", false)
def tyJ9 : Nat → FieldType := fun k => match k with
  | _ => .int
abbrev wsJ90 : List Cond := u_ws RJ9 TJ9 0
theorem nmJ9 : ∀ a, a < 0 → ∀ b, b < 0 → a ≠ b → (TJ9 a).2.1 ≠ (TJ9 b).2.1 := by decide +kernel
theorem tyJ9_ok : ∀ k, k < 0 → parseFieldDescriptor (TJ9 k).2.2.1 = some (tyJ9 k) := by decide +kernel
abbrev cJ9_max_7cf53 : ByteArray := prog_15_method_65_code
def yJ9_max_7cf53 : MethodName := ⟨RJ9, "max", "(II)I"⟩
abbrev cJ9_min_7cf53 : ByteArray := prog_15_method_69_code
def yJ9_min_7cf53 : MethodName := ⟨RJ9, "min", "(II)I"⟩
def RJ0 : String := "java/lang/String"
def TJ0 : u_T := fun k => match k with
  | _ => ("", "", "", false)
def tyJ0 : Nat → FieldType := fun k => match k with
  | _ => .int
abbrev wsJ00 : List Cond := u_ws RJ0 TJ0 0
theorem nmJ0 : ∀ a, a < 0 → ∀ b, b < 0 → a ≠ b → (TJ0 a).2.1 ≠ (TJ0 b).2.1 := by decide +kernel
theorem tyJ0_ok : ∀ k, k < 0 → parseFieldDescriptor (TJ0 k).2.2.1 = some (tyJ0 k) := by decide +kernel
def RJ10 : String := "java/lang/System"
def TJ10 : u_T := fun k => match k with
  | _ => ("", "", "", false)
def tyJ10 : Nat → FieldType := fun k => match k with
  | _ => .int
abbrev wsJ100 : List Cond := u_ws RJ10 TJ10 0
theorem nmJ10 : ∀ a, a < 0 → ∀ b, b < 0 → a ≠ b → (TJ10 a).2.1 ≠ (TJ10 b).2.1 := by decide +kernel
theorem tyJ10_ok : ∀ k, k < 0 → parseFieldDescriptor (TJ10 k).2.2.1 = some (tyJ10 k) := by decide +kernel
def RL : String := "ReadSideLaw"
abbrev cL_cell : ByteArray := method_2_code
def yL_cell : MethodName := ⟨RL, "cell", "([II)I"⟩
abbrev cL_mode : ByteArray := method_3_code
def yL_mode : MethodName := ⟨RL, "mode", "(LReadSide;II[J)I"⟩
abbrev cL_home : ByteArray := method_4_code
def yL_home : MethodName := ⟨RL, "home", "(LReadSide;II[J)I"⟩
abbrev cL_command : ByteArray := method_5_code
def yL_command : MethodName := ⟨RL, "command", "(LReadSide;IIIII[J)I"⟩
abbrev cL_step : ByteArray := method_6_code
def yL_step : MethodName := ⟨RL, "step", "(LReadSide;II[J)I"⟩
abbrev cL_speed : ByteArray := method_7_code
def yL_speed : MethodName := ⟨RL, "speed", "(LReadSide;II[J)I"⟩
abbrev cL_ticks : ByteArray := method_8_code
def yL_ticks : MethodName := ⟨RL, "ticks", "(LReadSide;I[J)I"⟩
abbrev cL_up : ByteArray := method_9_code
def yL_up : MethodName := ⟨RL, "up", "(LReadSide;IZ[J)I"⟩
abbrev cL_snapshot : ByteArray := method_10_code
def yL_snapshot : MethodName := ⟨RL, "snapshot", "(LReadSide;I[J)I"⟩
abbrev cL_crash : ByteArray := method_11_code
def yL_crash : MethodName := ⟨RL, "crash", "(LReadSide;I[J)I"⟩
abbrev cL_ask : ByteArray := method_12_code
def yL_ask : MethodName := ⟨RL, "ask", "(LReadSide;IJIIII[J)I"⟩
abbrev cL_read : ByteArray := method_13_code
def yL_read : MethodName := ⟨RL, "read", "(LReadSide;II[J)I"⟩
abbrev cL_value : ByteArray := method_14_code
def yL_value : MethodName := ⟨RL, "value", "(LReadSide;III[J)I"⟩
abbrev cL_at : ByteArray := method_15_code
def yL_at : MethodName := ⟨RL, "at", "(LReadSide;II[J)I"⟩
abbrev cL_kept : ByteArray := method_16_code
def yL_kept : MethodName := ⟨RL, "kept", "(LReadSide;II[J)I"⟩
abbrev cL_log : ByteArray := method_17_code
def yL_log : MethodName := ⟨RL, "log", "(LReadSide;II[J)I"⟩
abbrev cL_logged : ByteArray := method_18_code
def yL_logged : MethodName := ⟨RL, "logged", "(LReadSide;III[J)I"⟩
abbrev cL_session : ByteArray := method_19_code
def yL_session : MethodName := ⟨RL, "session", "(LReadSide;III[J)I"⟩
abbrev cL_told : ByteArray := method_20_code
def yL_told : MethodName := ⟨RL, "told", "(LReadSide;JI[J)I"⟩
abbrev cL_count : ByteArray := method_21_code
def yL_count : MethodName := ⟨RL, "count", "(LReadSide;I[J)I"⟩
abbrev cL_law : ByteArray := code
def yL_law : MethodName := ⟨RL, "law", "([I)Z"⟩
abbrev vwCl : List vw_C := [(RX0, TX0, 5), (RX1, TX1, 3), (RX2, TX2, 11), (RX3, TX3, 7), (RX4, TX4, 4), (RX5, TX5, 7), (RX6, TX6, 10), (RX7, TX7, 39)]
end
section
abbrev am_Row : Type := MethodName × ByteArray × Nat × Option FieldType × List (Nat × Nat × Nat × Nat) × Nat × Nat
def am_tab0 : List am_Row := [(yX0_init, cX0_init, 6, none, [], 1, 12), (yX1_init, cX1_init, 1, none, [], 1, 12), (yX1_commandAt, cX1_commandAt, 2, (some (.object "ReadSide$Command")), [], 0, 0), (yX1_append, cX1_append, 2, none, [], 0, 0), (yX1_dropTo, cX1_dropTo, 4, (some .int), [], 0, 0), (yX2_init, cX2_init, 8, none, [], 1, 12), (yX3_init, cX3_init, 1, none, [], 2, 27), (yX3_keep, cX3_keep, 1, none, [], 2, 53), (yX3_comeAgain, cX3_comeAgain, 1, none, [], 2, 53), (yX4_init, cX4_init, 1, none, [], 1, 12), (yX4_needsNow, cX4_needsNow, 3, (some (.array .int)), [], 1, 15), (yX4_see, cX4_see, 3, none, [], 1, 15), (yX5_init, cX5_init, 2, none, [], 1, 12), (yX5_becomeLike, cX5_becomeLike, 2, none, [], 1, 40), (yX5_take, cX5_take, 5, none, [], 2, 30), (yX5_receive, cX5_receive, 3, none, [], 0, 0)]
def am_tab1 : List am_Row := [(yX5_reserve, cX5_reserve, 4, none, [], 0, 0), (yX5_ship, cX5_ship, 5, none, [], 0, 0), (yX5_release, cX5_release, 6, none, [], 1, 13), (yX5_answerTo, cX5_answerTo, 4, (some .long), [], 1, 17), (yX5_heldBy, cX5_heldBy, 5, (some .long), [], 0, 0), (yX5_itemRanked, cX5_itemRanked, 6, (some .int), [], 0, 0), (yX5_worth, cX5_worth, 6, (some .long), [], 0, 0), (yX6_init, cX6_init, 6, none, [], 3, 42), (yX6_mode, cX6_mode, 6, (some .int), [], 7, 96), (yX6_home, cX6_home, 4, (some .int), [], 7, 95), (yX6_command, cX6_command, 10, (some .long), [], 7, 96), (yX6_step, cX6_step, 3, (some .int), [], 7, 95), (yX6_speed, cX6_speed, 4, (some .int), [], 7, 96), (yX6_ticks, cX6_ticks, 5, (some .int), [], 7, 98), (yX6_up, cX6_up, 4, (some .boolean), [], 7, 95), (yX6_snapshot, cX6_snapshot, 3, (some .int), [], 7, 95)]
def am_tab2 : List am_Row := [(yX6_crash, cX6_crash, 4, (some .int), [], 7, 95), (yX6_trim, cX6_trim, 3, (some .int), [], 2, 33), (yX6_ask, cX6_ask, 11, (some .int), [], 8, 109), (yX6_read, cX6_read, 4, (some .long), [], 7, 95), (yX6_value, cX6_value, 4, (some .long), [], 8, 109), (yX6_at, cX6_at, 3, (some .int), [], 7, 95), (yX6_kept, cX6_kept, 3, (some .int), [], 7, 95), (yX6_log, cX6_log, 3, (some .int), [], 7, 95), (yX6_logged, cX6_logged, 5, (some .int), [], 7, 95), (yX6_session, cX6_session, 5, (some .int), [], 7, 95), (yX6_told, cX6_told, 4, (some .int), [], 7, 100), (yX6_count, cX6_count, 2, (some .int), [], 6, 82), (yX6_needIndex, cX6_needIndex, 2, none, [], 6, 82), (yX6_needNumber, cX6_needNumber, 3, none, [], 6, 82), (yX6_needQuestion, cX6_needQuestion, 3, none, [], 7, 95), (yX6_needToken, cX6_needToken, 7, none, [], 6, 82)]
def am_tab3 : List am_Row := [(yX6_checkOf, cX6_checkOf, 2, (some .long), [], 0, 0), (yX6_tokenOf, cX6_tokenOf, 4, (some .long), [], 1, 15), (yX6_positionIn, cX6_positionIn, 3, (some .int), [], 0, 0), (yX6_withPosition, cX6_withPosition, 4, (some (.array .int)), [], 1, 15), (yX6_covers, cX6_covers, 3, (some .boolean), [], 0, 0), (yX6_sum, cX6_sum, 6, (some .int), [], 0, 0), (yX6_leastKept, cX6_leastKept, 7, (some .int), [], 1, 13), (yX6_takeStep, cX6_takeStep, 5, (some .int), [], 4, 62), (yX6_takeStepsOfTick, cX6_takeStepsOfTick, 8, (some .int), [], 5, 78), (yX6_firstThatMay, cX6_firstThatMay, 5, (some .int), [], 3, 46), (yX6_mayAnswer, cX6_mayAnswer, 4, (some .boolean), [], 2, 31), (yX6_leastFor, cX6_leastFor, 5, (some .int), [], 1, 14), (yX6_lookAtWaiting, cX6_lookAtWaiting, 3, none, [], 3, 48), (yX6_failOverdue, cX6_failOverdue, 2, none, [], 1, 14), (yX6_forgetEnded, cX6_forgetEnded, 3, none, [], 0, 0), (yX6_answer, cX6_answer, 4, none, [], 2, 33)]
def am_tab4 : List am_Row := [(yX6_fail, cX6_fail, 2, none, [], 0, 0), (yX7_init, cX7_init, 4, none, [], 1, 12), (yX7_lesser, cX7_lesser, 2, (some .int), [], 0, 0), (yX7_greater, cX7_greater, 2, (some .int), [], 0, 0), (yX7_thrown, cX7_thrown, 1, (some .int), [], 0, 0), (yX7_in, cX7_in, 6, (some .boolean), [], 0, 0), (yX7_check, cX7_check, 2, (some .long), [], 0, 0), (yX7_tokenOf, cX7_tokenOf, 5, (some .long), [], 1, 15), (yX7_position, cX7_position, 3, (some .int), [], 0, 0), (yX7_isToken, cX7_isToken, 7, (some .boolean), [], 1, 15), (yX7_isSession, cX7_isSession, 1, (some .boolean), [], 1, 17), (yX7_isReplica, cX7_isReplica, 2, (some .boolean), [], 1, 17), (yX7_isPart, cX7_isPart, 2, (some .boolean), [], 1, 17), (yX7_mode, cX7_mode, 5, (some .int), [], 4, 70), (yX7_home, cX7_home, 4, (some .int), [], 2, 31), (yX7_command, cX7_command, 11, (some .long), [], 2, 31)]
def am_tab5 : List am_Row := [(yX7_take, cX7_take, 8, none, [], 1, 13), (yX7_covers, cX7_covers, 6, (some .boolean), [], 0, 0), (yX7_advance, cX7_advance, 4, (some .int), [], 4, 70), (yX7_step, cX7_step, 3, (some .int), [], 5, 85), (yX7_speed, cX7_speed, 4, (some .int), [], 2, 31), (yX7_tick, cX7_tick, 6, (some .int), [], 5, 85), (yX7_fail, cX7_fail, 2, none, [], 0, 0), (yX7_ticks, cX7_ticks, 4, (some .int), [], 6, 103), (yX7_up, cX7_up, 4, (some .boolean), [], 4, 70), (yX7_copy, cX7_copy, 4, none, [], 0, 0), (yX7_sum, cX7_sum, 2, (some .int), [], 0, 0), (yX7_snapshot, cX7_snapshot, 2, (some .int), [], 2, 31), (yX7_crash, cX7_crash, 3, (some .int), [], 2, 31), (yX7_trim, cX7_trim, 5, (some .int), [], 1, 13), (yX7_isQuestion, cX7_isQuestion, 3, (some .boolean), [], 1, 17), (yX7_tell, cX7_tell, 9, (some .long), [], 1, 19)]
def am_tab6 : List am_Row := [(yX7_ranked, cX7_ranked, 8, (some .int), [], 0, 0), (yX7_may, cX7_may, 6, (some .boolean), [], 1, 17), (yX7_answer, cX7_answer, 4, none, [], 2, 41), (yX7_look, cX7_look, 3, none, [], 3, 56), (yX7_waiting, cX7_waiting, 3, (some .int), [], 0, 0), (yX7_ask, cX7_ask, 11, (some .int), [], 3, 56), (yX7_read, cX7_read, 3, (some .long), [], 1, 18), (yX7_value, cX7_value, 4, (some .long), [], 2, 39), (yX7_at, cX7_at, 3, (some .int), [], 2, 31), (yX7_kept, cX7_kept, 3, (some .int), [], 2, 31), (yX7_log, cX7_log, 3, (some .int), [], 2, 31), (yX7_logged, cX7_logged, 5, (some .int), [], 2, 31), (yX7_session, cX7_session, 4, (some .int), [], 2, 31), (yX7_told, cX7_told, 4, (some .int), [], 2, 34), (yX7_count, cX7_count, 4, (some .int), [], 1, 18), (yL_cell, cL_cell, 2, (some .int), [], 0, 0)]
def am_tab7 : List am_Row := [(yL_mode, cL_mode, 5, (some .int), [(0, 10, 13, 13), (0, 10, 17, 15)], 8, 115), (yL_home, cL_home, 5, (some .int), [(0, 10, 13, 13)], 8, 112), (yL_command, cL_command, 8, (some .int), [(0, 15, 18, 13), (0, 15, 22, 15), (0, 15, 26, 24)], 8, 119), (yL_step, cL_step, 5, (some .int), [(0, 10, 13, 13)], 8, 111), (yL_speed, cL_speed, 5, (some .int), [(0, 10, 13, 13), (0, 10, 17, 15)], 8, 113), (yL_ticks, cL_ticks, 4, (some .int), [(0, 9, 12, 15)], 8, 116), (yL_up, cL_up, 5, (some .int), [(0, 17, 20, 13)], 8, 112), (yL_snapshot, cL_snapshot, 4, (some .int), [(0, 9, 12, 13)], 8, 111), (yL_crash, cL_crash, 4, (some .int), [(0, 9, 12, 13)], 8, 112), (yL_ask, cL_ask, 10, (some .int), [(0, 19, 22, 13), (0, 19, 26, 15), (0, 19, 30, 24)], 9, 133), (yL_read, cL_read, 5, (some .int), [(0, 9, 12, 13)], 8, 112), (yL_value, cL_value, 6, (some .int), [(0, 11, 14, 13)], 9, 126), (yL_at, cL_at, 5, (some .int), [(0, 10, 13, 13)], 8, 111), (yL_kept, cL_kept, 5, (some .int), [(0, 10, 13, 13)], 8, 111), (yL_log, cL_log, 5, (some .int), [(0, 10, 13, 13)], 8, 111), (yL_logged, cL_logged, 6, (some .int), [(0, 12, 15, 13)], 8, 113)]
def am_tab8 : List am_Row := [(yL_session, cL_session, 6, (some .int), [(0, 12, 15, 13)], 8, 113), (yL_told, cL_told, 6, (some .int), [(0, 11, 14, 13), (0, 11, 18, 15)], 8, 117), (yL_count, cL_count, 4, (some .int), [(0, 9, 12, 13)], 7, 97), (yL_law, cL_law, 8, (some .boolean), [], 10, 154)]
def am_tab : List am_Row := am_tab0 ++ (am_tab1 ++ (am_tab2 ++ (am_tab3 ++ (am_tab4 ++ (am_tab5 ++ (am_tab6 ++ (am_tab7 ++ (am_tab8))))))))
def am_row0 (k : Nat) : am_Row := am_tab.getD k (yL_law, cL_law, 0, none, [], 0, 0)
def am_y (k : Nat) : MethodName := (am_row0 k).1
def am_b (k : Nat) : ByteArray := (am_row0 k).2.1
def am_ml (k : Nat) : Nat := (am_row0 k).2.2.1
def am_rt (k : Nat) : Option FieldType := (am_row0 k).2.2.2.1
def am_hs (k : Nat) : List (Nat × Nat × Nat × Nat) := (am_row0 k).2.2.2.2.1
def am_fr (k : Nat) : Nat := (am_row0 k).2.2.2.2.2.1
def am_lo (k : Nat) : Nat := (am_row0 k).2.2.2.2.2.2
end
section
/-! THE ABSTRACT MACHINE: typed memory (kind, length, ints, longs, references by relative addresses, 0 is null) -/
abbrev am_Mem : Type := (Nat × Nat) × (Nat → Nat) × (Nat → Nat) × (Nat → Nat → Int32) × (Nat → Nat → Int64) × (Nat → Nat → Nat)
def am_n (m : am_Mem) : Nat := m.1.1
def am_u (m : am_Mem) : Nat := m.1.2
def am_K (m : am_Mem) (a : Nat) : Nat := m.2.1 a
def am_L (m : am_Mem) (a : Nat) : Nat := m.2.2.1 a
def am_I (m : am_Mem) (a j : Nat) : Int32 := m.2.2.2.1 a j
def am_J (m : am_Mem) (a j : Nat) : Int64 := m.2.2.2.2.1 a j
def am_R (m : am_Mem) (a j : Nat) : Nat := m.2.2.2.2.2 a j
def am_put {α : Type} (f : Nat → Nat → α) (a j : Nat) (v : α) : Nat → Nat → α := fun b i => if b = a ∧ i = j then v else f b i
def am_row {α : Type} (f : Nat → Nat → α) (a : Nat) (g : Nat → α) : Nat → Nat → α := fun b i => if b = a then g i else f b i
def am_up {α : Type} (f : Nat → α) (a : Nat) (v : α) : Nat → α := fun b => if b = a then v else f b
def am_setI (m : am_Mem) (a j : Nat) (v : Int32) : am_Mem := (m.1, m.2.1, m.2.2.1, am_put m.2.2.2.1 a j v, m.2.2.2.2.1, m.2.2.2.2.2)
def am_setJ (m : am_Mem) (a j : Nat) (v : Int64) : am_Mem := (m.1, m.2.1, m.2.2.1, m.2.2.2.1, am_put m.2.2.2.2.1 a j v, m.2.2.2.2.2)
def am_setR (m : am_Mem) (a j : Nat) (v : Nat) : am_Mem := (m.1, m.2.1, m.2.2.1, m.2.2.2.1, m.2.2.2.2.1, am_put m.2.2.2.2.2 a j v)
def am_rowI (m : am_Mem) (a : Nat) (g : Nat → Int32) : am_Mem := (m.1, m.2.1, m.2.2.1, am_row m.2.2.2.1 a g, m.2.2.2.2.1, m.2.2.2.2.2)
def am_rowJ (m : am_Mem) (a : Nat) (g : Nat → Int64) : am_Mem := (m.1, m.2.1, m.2.2.1, m.2.2.2.1, am_row m.2.2.2.2.1 a g, m.2.2.2.2.2)
/-- a new cell of the kind kd (an array: of len places), sz slots; its address is am_n m + 1 -/
def am_new (m : am_Mem) (kd len sz : Nat) : am_Mem :=
  ((m.1.1 + 1, m.1.2 + sz), am_up m.2.1 (m.1.1 + 1) kd, am_up m.2.2.1 (m.1.1 + 1) len, am_row m.2.2.2.1 (m.1.1 + 1) (fun _ => 0), am_row m.2.2.2.2.1 (m.1.1 + 1) (fun _ => 0), am_row m.2.2.2.2.2 (m.1.1 + 1) (fun _ => 0))
/-- the kinds of the fields: 0 int, 1 long, 2 reference; kinds of cells: 0 Command, 1 Log, 2 Read, 3 Replica, 4 Session, 5 State, 6 ReadSide, 7 ReadSideModel, 8 9 10 the exceptions, 11 int, 12 long, 13 boolean arrays, 14 .. arrays of Command, Log, Read, Replica, Session -/
def am_fk (ci : Nat) : List Nat := match ci with
  | 0 => [0, 0, 0, 0, 2]
  | 1 => [2, 0, 0]
  | 2 => [0, 0, 0, 0, 0, 1, 0, 0, 0, 1, 1]
  | 3 => [2, 2, 2, 2, 0, 0, 0]
  | 4 => [2, 2, 0, 0]
  | 5 => [2, 2, 2, 2, 2, 2, 2]
  | 6 => [2, 2, 2, 2, 2, 0, 0, 0, 0, 0]
  | 7 => [0, 0, 0, 0, 2, 2, 2, 2, 2, 2, 2, 2, 2, 2, 2, 2, 2, 2, 2, 2, 2, 2, 2, 2, 2, 2, 0, 2, 2, 2, 2, 2, 2, 2, 2, 2, 2, 2, 2]
  | _ => []
def am_rv (base : Nat) (x : Nat) : Value := match x with
  | 0 => .null
  | x + 1 => .ref (base + x)
def am_ro (base : Nat) (x : Nat) : Option Nat := match x with
  | 0 => none
  | x + 1 => some (base + x)
theorem am_ro_rv (base x : Nat) : va_rf (am_ro base x) = am_rv base x := by cases x <;> rfl
def am_fv (base : Nat) (m : am_Mem) (a kd j : Nat) : Value := match kd with
  | 0 => .int (am_I m a j)
  | 1 => .long (am_J m a j)
  | _ => am_rv base (am_R m a j)
def am_fl (base : Nat) (m : am_Mem) (a : Nat) : List Nat → Nat → List Value
  | [], _ => []
  | kd :: r, j => am_fv base m a kd j :: am_fl base m a r (j + 1)
def am_ac (base : Nat) (m : am_Mem) (a : Nat) : (Nat → Int32) ⊕ (Nat → Int64) ⊕ (Nat → UInt32) ⊕ (Nat → UInt64) ⊕ (Nat → Option Nat) :=
  if am_K m a = 12 then .inr (.inl (am_J m a)) else if am_K m a < 14 then .inl (am_I m a) else .inr (.inr (.inr (.inr (fun j => am_ro base (am_R m a j)))))
def am_cell (base : Nat) (cy : Nat → ClassId) (m : am_Mem) (a : Nat) : va_E :=
  if am_K m a < 11 then .inr (am_K m a, am_fl base m a (am_fk (am_K m a)) 0) else .inl (cy (am_K m a), am_L m a, am_ac base m a)
def am_ws (base : Nat) (cy : Nat → ClassId) (m : am_Mem) : va_W := (List.range (am_n m)).map (fun i => (base + i, am_cell base cy m (i + 1)))
def am_TE : u_T := fun _ => ("", "", "", false)
def am_cl : List vw_C := vwCl ++ [("java/lang/IndexOutOfBoundsException", am_TE, 0), ("java/lang/IllegalArgumentException", am_TE, 0), ("java/lang/IllegalStateException", am_TE, 0)]
def am_an (j : Nat) : FieldType := match j with
  | 0 => .int
  | 1 => .long
  | 2 => .boolean
  | 3 => .object "ReadSide$Command"
  | 4 => .object "ReadSide$Log"
  | 5 => .object "ReadSide$Read"
  | 6 => .object "ReadSide$Replica"
  | _ => .object "ReadSide$Session"
def am_tys (cy : Nat → ClassId) : List (ClassId × FieldType) := (List.range 8).map (fun j => (cy (11 + j), am_an j))
/-- values: references are relative (0 is null); .retAddr 0 is the law's script, another .retAddr is unknown -/
def am_sh (base b : Nat) (v : Value) : Value := match v with
  | .ref x => am_rv base x
  | .retAddr _ => .ref b
  | v => v
def am_kn (v : Value) : Bool := match v with
  | .retAddr (_ + 1) => false
  | _ => true
def am_ls (base b : Nat) (ls : List Value) (la : Array Slot) (nL : Nat) : Prop :=
  la.size = nL ∧ lv_wf la ∧ ∀ (i : Nat) (v : Value), ls[i]? = some v → am_kn v = true → la[i]? = some (.val (am_sh base b v))
abbrev am_Out : Type := Option Value ⊕ Nat
def am_CM : Nat := 601024
def am_SM : Nat := 7293000
/-- kinds outside the cells that there are -/
def am_Ok (m : am_Mem) : Prop := ∀ a, (a = 0 ∨ am_n m < a) → am_K m a = 99
def am_Rel (base : Nat) (D : va_G) (cy : Nat → ClassId) (m : am_Mem) (H : Heap) : Prop := va_P D am_cl (am_ws base cy m) H ∧ H.size = base + am_n m ∧ am_Ok m
def am_xk (w : Cond) : Bool := match w with
  | .methodLinkNest .. => true
  | .castable .. => true
  | .declares _ => true
  | .arrayOver (.object _) => true
  | _ => false
def am_ncs : List (String × String) := [("java/lang/IllegalArgumentException", "java/lang/IndexOutOfBoundsException"), ("java/lang/IllegalStateException", "java/lang/IndexOutOfBoundsException"), ("java/lang/IllegalStateException", "java/lang/IllegalArgumentException")]
/-- what holds at the start of every method's frame -/
def am_F (base b : Nat) (sc : Nat × (Nat → Int32)) (D : va_G) (cy : Nat → ClassId) (s : State) : Prop :=
  (∀ w ∈ lw_tbl, goodWord w = true → ∀ a, w.before a s = true) ∧ (∀ w ∈ lw_tbl, am_xk w = true → w.before #[] s = true) ∧ (∀ own k tx, Cond.stringRef own k tx ∈ lw_tbl → ∃ sa, vk_R own k tx sa s) ∧ (∀ q ∈ am_ncs, va_Nc q.1 q.2 s) ∧
  va_K D am_cl (am_tys cy) s ∧ va_X b sc.1 sc.2 s s.heap ∧ b < base ∧ base ≤ s.heap.size ∧
  vx_Zq Bundle.tN "UNASSIGNED_STACK" Bundle.steD (fun q => base ≤ q) s s.heap ∧ vx_Zq Bundle.tN "SUPPRESSED_SENTINEL" Bundle.listD (fun q => base ≤ q) s s.heap
/-- the frame's own method is k -/
def am_Fr (k : Nat) (s : State) (mid : MethodId) (meth : Method) (c : Code) : Prop :=
  c.code = am_b k ∧ c.maxLocals = am_ml k ∧ meth.sig.returnType = am_rt k ∧ meth.locks = false ∧ s.vm.findClass (am_y k).cls = some mid.cls ∧ meth.name = (am_y k).name ∧
  c.exceptionTable.toList.map (fun h => (h.startPc, h.endPc, h.handlerPc, h.catchType)) = am_hs k
def am_Rm (R : Room) (m : am_Mem) (cells slots : Nat) : Prop := am_n m ≤ am_CM ∧ am_u m ≤ am_SM ∧ cells + (am_CM - am_n m) ≤ R.cells ∧ slots + (am_SM - am_u m) ≤ R.slots
def am_Ctx (sc : Nat × (Nat → Int32)) (k : Nat) (m : am_Mem) (p : Program) (l : Launch) (base b : Nat) (D : va_G) (cy : Nat → ClassId) (R : Room) (s : State) (mid : MethodId) (meth : Method) (c : Code) (H : Heap) (locs : List Loc) (cells slots : Nat) : Prop :=
  p.tables.exec = Jvm.exec ∧ l.stackTraces = false ∧ am_F base b sc D cy s ∧ am_Fr k s mid meth c ∧ (am_fr k ≤ R.frames ∧ am_lo k ≤ R.locals) ∧ am_Rm R m cells slots ∧ am_Rel base D cy m H ∧ va_S (fun q => base ≤ q) s.heap H locs ∧ s.heap.size + cells = base + am_n m
def am_oo (base b : Nat) (out : am_Out) (o : Outcome) : Prop := match out with
  | .inl v => o = .returned (v.map (am_sh base b))
  | .inr a => ∃ x, a = x + 1 ∧ o = .threw (base + x)
def am_End (base b : Nat) (D : va_G) (cy : Nat → ClassId) (R : Room) (s : State) (below : List Frame) (Q : am_Out → am_Mem → Prop) (t : State) : Prop :=
  ∃ (o : Outcome) (out : am_Out) (m' : am_Mem) (L : List Loc) (k n : Nat), t.status = .running ∧ Ended t below o ∧ Q out m' ∧ am_oo base b out o ∧ am_Rel base D cy m' t.heap ∧ am_Rm R m' k n ∧
    s.WarmedH t.vm ∧ s.sameButNew ({ t with vm := s.vm } : State) L k n ∧ va_S (fun q => base ≤ q) s.heap t.heap L ∧ s.heap.size + k = base + am_n m'
/-- THE JUDGEMENT: method k at pc with these locals, this stack, this memory comes to its end, with Q of the outcome and the memory there; in every machine that holds them -/
def am_W (sc : Nat × (Nat → Int32)) (k pc : Nat) (ls st : List Value) (m : am_Mem) (Q : am_Out → am_Mem → Prop) : Prop :=
  ∀ (p : Program) (l : Launch) (e : Env) (base b : Nat) (D : va_G) (cy : Nat → ClassId) (R : Room) (s : State) (mid : MethodId) (args : Array Value) (below : List Frame) (meth : Method) (c : Code) (H : Heap) (locs : List Loc) (cells slots : Nat) (la : Array Slot),
    am_Ctx sc k m p l base b D cy R s mid meth c H locs cells slots → am_ls base b ls la (am_ml k) →
    W p l e R s mid args below meth c H locs cells slots (am_End base b D cy R s below Q) (F0 mid pc la (st.map (am_sh base b)))
/-- the instruction at pc of method k, and where the next one stands -/
def am_at (k pc : Nat) (i : Instr) (n q : Nat) : Prop := decode (am_b k) pc = .ok (i, n) ∧ pc + n = q
theorem am_W.mono {sc : Nat × (Nat → Int32)} {k pc : Nat} {ls st : List Value} {m : am_Mem} {Q Q' : am_Out → am_Mem → Prop} (h : am_W sc k pc ls st m Q) (hq : ∀ o m', Q o m' → Q' o m') : am_W sc k pc ls st m Q' := by
  intro p l e base b D cy R s mid args below meth c H locs cells slots la C hla T hT X
  obtain ⟨t, a, o, out, m', L, k', n', h1, h2, h3, h4⟩ := h p l e base b D cy R s mid args below meth c H locs cells slots la C hla T hT X
  exact ⟨t, a, o, out, m', L, k', n', h1, h2, hq _ _ h3, h4⟩
end
section
theorem am_C.x {sc : Nat × (Nat → Int32)} {k : Nat} {m : am_Mem} {p : Program} {l : Launch} {base b : Nat} {D : va_G} {cy : Nat → ClassId} {R : Room} {s : State} {mid : MethodId} {meth : Method} {c : Code} {H : Heap} {locs : List Loc} {cells slots : Nat} (C : am_Ctx sc k m p l base b D cy R s mid meth c H locs cells slots) : p.tables.exec = Jvm.exec := C.1
theorem am_C.b {sc : Nat × (Nat → Int32)} {k : Nat} {m : am_Mem} {p : Program} {l : Launch} {base b : Nat} {D : va_G} {cy : Nat → ClassId} {R : Room} {s : State} {mid : MethodId} {meth : Method} {c : Code} {H : Heap} {locs : List Loc} {cells slots : Nat} (C : am_Ctx sc k m p l base b D cy R s mid meth c H locs cells slots) : c.code = am_b k := C.2.2.2.1.1
theorem am_C.own {sc : Nat × (Nat → Int32)} {k : Nat} {m : am_Mem} {p : Program} {l : Launch} {base b : Nat} {D : va_G} {cy : Nat → ClassId} {R : Room} {s : State} {mid : MethodId} {meth : Method} {c : Code} {H : Heap} {locs : List Loc} {cells slots : Nat} (C : am_Ctx sc k m p l base b D cy R s mid meth c H locs cells slots) : s.vm.findClass (am_y k).cls = some mid.cls := C.2.2.2.1.2.2.2.2.1
theorem am_C.w {sc : Nat × (Nat → Int32)} {k : Nat} {m : am_Mem} {p : Program} {l : Launch} {base b : Nat} {D : va_G} {cy : Nat → ClassId} {R : Room} {s : State} {mid : MethodId} {meth : Method} {c : Code} {H : Heap} {locs : List Loc} {cells slots : Nat} (C : am_Ctx sc k m p l base b D cy R s mid meth c H locs cells slots) {w : Cond} (h : w ∈ lw_tbl) (hg : goodWord w = true) {args : Array Value} : w.before args s = true := C.2.2.1.1 w h hg args
theorem am_iadd {sc : Nat × (Nat → Int32)} {k pc q : Nat} {ls st : List Value} {m : am_Mem} {Q : am_Out → am_Mem → Prop} {x y : Int32}  (hd : am_at k pc .iadd 1 q) (h : am_W sc k q ls (.int (x + y) :: st) m Q) : am_W sc k pc ls (.int y :: .int x :: st) m Q := by
  obtain ⟨hd, rfl⟩ := hd
  intro p l e base b D cy R s mid args below meth c H locs cells slots la C hla
  exact lv_iadd (rest := st.map (am_sh base b)) C.1 (am_C.b C) hd (h p l e base b D cy R s mid args below meth c H locs cells slots la C hla)
theorem am_isub {sc : Nat × (Nat → Int32)} {k pc q : Nat} {ls st : List Value} {m : am_Mem} {Q : am_Out → am_Mem → Prop} {x y : Int32}  (hd : am_at k pc .isub 1 q) (h : am_W sc k q ls (.int (x - y) :: st) m Q) : am_W sc k pc ls (.int y :: .int x :: st) m Q := by
  obtain ⟨hd, rfl⟩ := hd
  intro p l e base b D cy R s mid args below meth c H locs cells slots la C hla
  exact lv_isub (rest := st.map (am_sh base b)) C.1 (am_C.b C) hd (h p l e base b D cy R s mid args below meth c H locs cells slots la C hla)
theorem am_imul {sc : Nat × (Nat → Int32)} {k pc q : Nat} {ls st : List Value} {m : am_Mem} {Q : am_Out → am_Mem → Prop} {x y : Int32}  (hd : am_at k pc .imul 1 q) (h : am_W sc k q ls (.int (x * y) :: st) m Q) : am_W sc k pc ls (.int y :: .int x :: st) m Q := by
  obtain ⟨hd, rfl⟩ := hd
  intro p l e base b D cy R s mid args below meth c H locs cells slots la C hla
  exact lv_imul (rest := st.map (am_sh base b)) C.1 (am_C.b C) hd (h p l e base b D cy R s mid args below meth c H locs cells slots la C hla)
theorem am_iand {sc : Nat × (Nat → Int32)} {k pc q : Nat} {ls st : List Value} {m : am_Mem} {Q : am_Out → am_Mem → Prop} {x y : Int32}  (hd : am_at k pc .iand 1 q) (h : am_W sc k q ls (.int (x &&& y) :: st) m Q) : am_W sc k pc ls (.int y :: .int x :: st) m Q := by
  obtain ⟨hd, rfl⟩ := hd
  intro p l e base b D cy R s mid args below meth c H locs cells slots la C hla
  exact lv_iand (rest := st.map (am_sh base b)) C.1 (am_C.b C) hd (h p l e base b D cy R s mid args below meth c H locs cells slots la C hla)
theorem am_irem {sc : Nat × (Nat → Int32)} {k pc q : Nat} {ls st : List Value} {m : am_Mem} {Q : am_Out → am_Mem → Prop} {x y : Int32} (hne : ¬ y = 0) (hd : am_at k pc .irem 1 q) (h : am_W sc k q ls (.int (x - x / y * y) :: st) m Q) : am_W sc k pc ls (.int y :: .int x :: st) m Q := by
  obtain ⟨hd, rfl⟩ := hd
  intro p l e base b D cy R s mid args below meth c H locs cells slots la C hla
  exact lv_irem (rest := st.map (am_sh base b)) C.1 (am_C.b C) hd hne (h p l e base b D cy R s mid args below meth c H locs cells slots la C hla)
theorem am_ladd {sc : Nat × (Nat → Int32)} {k pc q : Nat} {ls st : List Value} {m : am_Mem} {Q : am_Out → am_Mem → Prop} {x y : Int64}  (hd : am_at k pc .ladd 1 q) (h : am_W sc k q ls (.long (x + y) :: st) m Q) : am_W sc k pc ls (.long y :: .long x :: st) m Q := by
  obtain ⟨hd, rfl⟩ := hd
  intro p l e base b D cy R s mid args below meth c H locs cells slots la C hla
  exact lv_ladd (rest := st.map (am_sh base b)) C.1 (am_C.b C) hd (h p l e base b D cy R s mid args below meth c H locs cells slots la C hla)
theorem am_lmul {sc : Nat × (Nat → Int32)} {k pc q : Nat} {ls st : List Value} {m : am_Mem} {Q : am_Out → am_Mem → Prop} {x y : Int64}  (hd : am_at k pc .lmul 1 q) (h : am_W sc k q ls (.long (x * y) :: st) m Q) : am_W sc k pc ls (.long y :: .long x :: st) m Q := by
  obtain ⟨hd, rfl⟩ := hd
  intro p l e base b D cy R s mid args below meth c H locs cells slots la C hla
  exact lv_lmul (rest := st.map (am_sh base b)) C.1 (am_C.b C) hd (h p l e base b D cy R s mid args below meth c H locs cells slots la C hla)
theorem am_land {sc : Nat × (Nat → Int32)} {k pc q : Nat} {ls st : List Value} {m : am_Mem} {Q : am_Out → am_Mem → Prop} {x y : Int64}  (hd : am_at k pc .land 1 q) (h : am_W sc k q ls (.long (x &&& y) :: st) m Q) : am_W sc k pc ls (.long y :: .long x :: st) m Q := by
  obtain ⟨hd, rfl⟩ := hd
  intro p l e base b D cy R s mid args below meth c H locs cells slots la C hla
  exact lv_land (rest := st.map (am_sh base b)) C.1 (am_C.b C) hd (h p l e base b D cy R s mid args below meth c H locs cells slots la C hla)
theorem am_lor {sc : Nat × (Nat → Int32)} {k pc q : Nat} {ls st : List Value} {m : am_Mem} {Q : am_Out → am_Mem → Prop} {x y : Int64}  (hd : am_at k pc .lor 1 q) (h : am_W sc k q ls (.long (x ||| y) :: st) m Q) : am_W sc k pc ls (.long y :: .long x :: st) m Q := by
  obtain ⟨hd, rfl⟩ := hd
  intro p l e base b D cy R s mid args below meth c H locs cells slots la C hla
  exact lv_lor (rest := st.map (am_sh base b)) C.1 (am_C.b C) hd (h p l e base b D cy R s mid args below meth c H locs cells slots la C hla)
theorem am_lushr {sc : Nat × (Nat → Int32)} {k pc q : Nat} {ls st : List Value} {m : am_Mem} {Q : am_Out → am_Mem → Prop} {x : Int64} {y : Int32}  (hd : am_at k pc .lushr 1 q) (h : am_W sc k q ls (.long ((x.toUInt64 >>> (y.toInt64.toUInt64 &&& Int64.toUInt64 63)).toInt64) :: st) m Q) : am_W sc k pc ls (.int y :: .long x :: st) m Q := by
  obtain ⟨hd, rfl⟩ := hd
  intro p l e base b D cy R s mid args below meth c H locs cells slots la C hla
  exact lv_lushr (rest := st.map (am_sh base b)) C.1 (am_C.b C) hd rfl (h p l e base b D cy R s mid args below meth c H locs cells slots la C hla)
theorem am_lshl {sc : Nat × (Nat → Int32)} {k pc q : Nat} {ls st : List Value} {m : am_Mem} {Q : am_Out → am_Mem → Prop} {x : Int64} {y : Int32}  (hd : am_at k pc .lshl 1 q) (h : am_W sc k q ls (.long (x <<< (y.toInt64 &&& 63)) :: st) m Q) : am_W sc k pc ls (.int y :: .long x :: st) m Q := by
  obtain ⟨hd, rfl⟩ := hd
  intro p l e base b D cy R s mid args below meth c H locs cells slots la C hla
  exact lv_lshl (rest := st.map (am_sh base b)) C.1 (am_C.b C) hd rfl (h p l e base b D cy R s mid args below meth c H locs cells slots la C hla)
theorem am_lshr {sc : Nat × (Nat → Int32)} {k pc q : Nat} {ls st : List Value} {m : am_Mem} {Q : am_Out → am_Mem → Prop} {x : Int64} {y : Int32}  (hd : am_at k pc .lshr 1 q) (h : am_W sc k q ls (.long (x >>> (y.toInt64 &&& 63)) :: st) m Q) : am_W sc k pc ls (.int y :: .long x :: st) m Q := by
  obtain ⟨hd, rfl⟩ := hd
  intro p l e base b D cy R s mid args below meth c H locs cells slots la C hla
  exact lv_lshr (rest := st.map (am_sh base b)) C.1 (am_C.b C) hd rfl (h p l e base b D cy R s mid args below meth c H locs cells slots la C hla)
theorem am_lcmp {sc : Nat × (Nat → Int32)} {k pc q : Nat} {ls st : List Value} {m : am_Mem} {Q : am_Out → am_Mem → Prop} {x y : Int64}  (hd : am_at k pc .lcmp 1 q) (h : am_W sc k q ls (.int (lg_cmp x y) :: st) m Q) : am_W sc k pc ls (.long y :: .long x :: st) m Q := by
  obtain ⟨hd, rfl⟩ := hd
  intro p l e base b D cy R s mid args below meth c H locs cells slots la C hla
  exact W.lcmp (rest := st.map (am_sh base b)) C.1 (am_C.b C) hd (h p l e base b D cy R s mid args below meth c H locs cells slots la C hla)
theorem am_i2l {sc : Nat × (Nat → Int32)} {k pc q : Nat} {ls st : List Value} {m : am_Mem} {Q : am_Out → am_Mem → Prop} {x : Int32}  (hd : am_at k pc .i2l 1 q) (h : am_W sc k q ls (.long x.toInt64 :: st) m Q) : am_W sc k pc ls (.int x :: st) m Q := by
  obtain ⟨hd, rfl⟩ := hd
  intro p l e base b D cy R s mid args below meth c H locs cells slots la C hla
  exact lv_i2l (rest := st.map (am_sh base b)) C.1 (am_C.b C) hd rfl (h p l e base b D cy R s mid args below meth c H locs cells slots la C hla)
theorem am_l2i {sc : Nat × (Nat → Int32)} {k pc q : Nat} {ls st : List Value} {m : am_Mem} {Q : am_Out → am_Mem → Prop} {x : Int64}  (hd : am_at k pc .l2i 1 q) (h : am_W sc k q ls (.int x.toInt32 :: st) m Q) : am_W sc k pc ls (.long x :: st) m Q := by
  obtain ⟨hd, rfl⟩ := hd
  intro p l e base b D cy R s mid args below meth c H locs cells slots la C hla
  exact lv_l2i (rest := st.map (am_sh base b)) C.1 (am_C.b C) hd rfl (h p l e base b D cy R s mid args below meth c H locs cells slots la C hla)
theorem am_iconst {sc : Nat × (Nat → Int32)} {k pc q : Nat} {ls st : List Value} {m : am_Mem} {Q : am_Out → am_Mem → Prop} {i : Int} {v : Int32} (hv : Int32.ofInt i = v) (hd : am_at k pc (.iconst i) 1 q) (h : am_W sc k q ls (.int v :: st) m Q) : am_W sc k pc ls (st) m Q := by
  obtain ⟨hd, rfl⟩ := hd
  intro p l e base b D cy R s mid args below meth c H locs cells slots la C hla
  exact lv_iconst (rest := st.map (am_sh base b)) C.1 (am_C.b C) hd hv (h p l e base b D cy R s mid args below meth c H locs cells slots la C hla)
theorem am_bipush {sc : Nat × (Nat → Int32)} {k pc q : Nat} {ls st : List Value} {m : am_Mem} {Q : am_Out → am_Mem → Prop} {i : Int} {v : Int32} (hv : (Int8.ofInt i).toInt32 = v) (hd : am_at k pc (.bipush i) 2 q) (h : am_W sc k q ls (.int v :: st) m Q) : am_W sc k pc ls (st) m Q := by
  obtain ⟨hd, rfl⟩ := hd
  intro p l e base b D cy R s mid args below meth c H locs cells slots la C hla
  exact lv_bipush (rest := st.map (am_sh base b)) C.1 (am_C.b C) hd hv (h p l e base b D cy R s mid args below meth c H locs cells slots la C hla)
theorem am_sipush {sc : Nat × (Nat → Int32)} {k pc q : Nat} {ls st : List Value} {m : am_Mem} {Q : am_Out → am_Mem → Prop} {i : Int} {v : Int32} (hv : (Int16.ofInt i).toInt32 = v) (hd : am_at k pc (.sipush i) 3 q) (h : am_W sc k q ls (.int v :: st) m Q) : am_W sc k pc ls (st) m Q := by
  obtain ⟨hd, rfl⟩ := hd
  intro p l e base b D cy R s mid args below meth c H locs cells slots la C hla
  exact lv_sipush (rest := st.map (am_sh base b)) C.1 (am_C.b C) hd hv (h p l e base b D cy R s mid args below meth c H locs cells slots la C hla)
theorem am_lconst {sc : Nat × (Nat → Int32)} {k pc q : Nat} {ls st : List Value} {m : am_Mem} {Q : am_Out → am_Mem → Prop} {i : Fin 2} {v : Int64} (hv : Int64.ofNat (i : Nat) = v) (hd : am_at k pc (.lconst i) 1 q) (h : am_W sc k q ls (.long v :: st) m Q) : am_W sc k pc ls (st) m Q := by
  obtain ⟨hd, rfl⟩ := hd
  intro p l e base b D cy R s mid args below meth c H locs cells slots la C hla
  exact lv_lconst (rest := st.map (am_sh base b)) C.1 (am_C.b C) hd hv (h p l e base b D cy R s mid args below meth c H locs cells slots la C hla)
theorem am_ldc {sc : Nat × (Nat → Int32)} {k pc q : Nat} {ls st : List Value} {m : am_Mem} {Q : am_Out → am_Mem → Prop} {i : Nat} {v : Int32} (hw : Cond.constant (am_y k).cls i v ∈ lw_tbl) (hd : am_at k pc (.ldc i) 2 q) (h : am_W sc k q ls (.int v :: st) m Q) : am_W sc k pc ls (st) m Q := by
  obtain ⟨hd, rfl⟩ := hd
  intro p l e base b D cy R s mid args below meth c H locs cells slots la C hla
  exact lv_ldc (own := (am_y k).cls) (rest := st.map (am_sh base b)) C.1 (am_C.b C) (am_C.own C) (am_C.w C hw rfl) hd (h p l e base b D cy R s mid args below meth c H locs cells slots la C hla)
theorem am_ldc2 {sc : Nat × (Nat → Int32)} {k pc q : Nat} {ls st : List Value} {m : am_Mem} {Q : am_Out → am_Mem → Prop} {i : Nat} {v : Int64} (hw : Cond.constantLong (am_y k).cls i v ∈ lw_tbl) (hd : am_at k pc (.ldc2_w i) 3 q) (h : am_W sc k q ls (.long v :: st) m Q) : am_W sc k pc ls (st) m Q := by
  obtain ⟨hd, rfl⟩ := hd
  intro p l e base b D cy R s mid args below meth c H locs cells slots la C hla
  exact lv_ldc2 (own := (am_y k).cls) (rest := st.map (am_sh base b)) C.1 (am_C.b C) (am_C.own C) (am_C.w C hw rfl) hd (h p l e base b D cy R s mid args below meth c H locs cells slots la C hla)
theorem am_null {sc : Nat × (Nat → Int32)} {k pc q : Nat} {ls st : List Value} {m : am_Mem} {Q : am_Out → am_Mem → Prop}   (hd : am_at k pc .aconst_null 1 q) (h : am_W sc k q ls (.ref 0 :: st) m Q) : am_W sc k pc ls (st) m Q := by
  obtain ⟨hd, rfl⟩ := hd
  intro p l e base b D cy R s mid args below meth c H locs cells slots la C hla
  exact lv_null (rest := st.map (am_sh base b)) C.1 (am_C.b C) hd (h p l e base b D cy R s mid args below meth c H locs cells slots la C hla)
theorem am_sh_cat (base b : Nat) (v : Value) : (am_sh base b v).category = v.category := by
  cases v with
  | ref x => cases x <;> rfl
  | _ => rfl
theorem am_dup {sc : Nat × (Nat → Int32)} {k pc q : Nat} {ls st : List Value} {m : am_Mem} {Q : am_Out → am_Mem → Prop} {v : Value} (hd : am_at k pc .dup 1 q) (hv : v.category = 1) (h : am_W sc k q ls (v :: v :: st) m Q) : am_W sc k pc ls (v :: st) m Q := by
  obtain ⟨hd, rfl⟩ := hd
  intro p l e base b D cy R s mid args below meth c H locs cells slots la C hla
  exact lv_dup (rest := st.map (am_sh base b)) C.1 (am_C.b C) hd (by rw [am_sh_cat]; exact hv) (h p l e base b D cy R s mid args below meth c H locs cells slots la C hla)
theorem am_dup2 {sc : Nat × (Nat → Int32)} {k pc q : Nat} {ls st : List Value} {m : am_Mem} {Q : am_Out → am_Mem → Prop} {v w : Value} (hd : am_at k pc .dup2 1 q) (hv : v.category = 1) (hw : w.category = 1) (h : am_W sc k q ls (v :: w :: v :: w :: st) m Q) : am_W sc k pc ls (v :: w :: st) m Q := by
  obtain ⟨hd, rfl⟩ := hd
  intro p l e base b D cy R s mid args below meth c H locs cells slots la C hla
  exact lv_dup2_11 (rest := st.map (am_sh base b)) C.1 (am_C.b C) hd (by rw [am_sh_cat]; exact hv) (by rw [am_sh_cat]; exact hw) (h p l e base b D cy R s mid args below meth c H locs cells slots la C hla)
/-- a jump: where it goes, where the next one stands -/
def am_jp (k pc : Nat) (i : Instr) (off : Int) (tgt q : Nat) : Prop := decode (am_b k) pc = .ok (i, 3) ∧ (pc : Int) + off = (tgt : Int) ∧ pc + 3 = q
theorem am_goto {sc : Nat × (Nat → Int32)} {k pc q : Nat} {ls st : List Value} {m : am_Mem} {Q : am_Out → am_Mem → Prop} {off : Int} {tgt : Nat} (hd : am_jp k pc (.goto off) off tgt q) (h : am_W sc k tgt ls st m Q) : am_W sc k pc ls st m Q := by
  obtain ⟨hd, ht, rfl⟩ := hd
  intro p l e base b D cy R s mid args below meth c H locs cells slots la C hla
  exact lv_goto (rest := st.map (am_sh base b)) C.1 (am_C.b C) hd ht (h p l e base b D cy R s mid args below meth c H locs cells slots la C hla)
theorem am_if_eq {sc : Nat × (Nat → Int32)} {k pc q : Nat} {ls st : List Value} {m : am_Mem} {Q : am_Out → am_Mem → Prop} {x : Int32} {off : Int} {tgt : Nat} (hd : am_jp k pc (.ifCond .eq off) off tgt q) (ht : x = 0 → am_W sc k tgt ls st m Q) (hf : ¬ x = 0 → am_W sc k q ls st m Q) : am_W sc k pc ls (.int x :: st) m Q := by
  obtain ⟨hd, hg, rfl⟩ := hd
  intro p l e base b D cy R s mid args below meth c H locs cells slots la C hla
  exact lv_if_eq (rest := st.map (am_sh base b)) C.1 (am_C.b C) hd hg (fun hc => ht hc p l e base b D cy R s mid args below meth c H locs cells slots la C hla) (fun hc => hf hc p l e base b D cy R s mid args below meth c H locs cells slots la C hla)
theorem am_icmp_eq {sc : Nat × (Nat → Int32)} {k pc q : Nat} {ls st : List Value} {m : am_Mem} {Q : am_Out → am_Mem → Prop} {x y : Int32} {off : Int} {tgt : Nat} (hd : am_jp k pc (.if_icmp .eq off) off tgt q) (ht : x = y → am_W sc k tgt ls st m Q) (hf : ¬ x = y → am_W sc k q ls st m Q) : am_W sc k pc ls (.int y :: .int x :: st) m Q := by
  obtain ⟨hd, hg, rfl⟩ := hd
  intro p l e base b D cy R s mid args below meth c H locs cells slots la C hla
  exact lv_icmp_eq (rest := st.map (am_sh base b)) C.1 (am_C.b C) hd hg (fun hc => ht hc p l e base b D cy R s mid args below meth c H locs cells slots la C hla) (fun hc => hf hc p l e base b D cy R s mid args below meth c H locs cells slots la C hla)
theorem am_if_ne {sc : Nat × (Nat → Int32)} {k pc q : Nat} {ls st : List Value} {m : am_Mem} {Q : am_Out → am_Mem → Prop} {x : Int32} {off : Int} {tgt : Nat} (hd : am_jp k pc (.ifCond .ne off) off tgt q) (ht : ¬ x = 0 → am_W sc k tgt ls st m Q) (hf : x = 0 → am_W sc k q ls st m Q) : am_W sc k pc ls (.int x :: st) m Q := by
  obtain ⟨hd, hg, rfl⟩ := hd
  intro p l e base b D cy R s mid args below meth c H locs cells slots la C hla
  exact lv_if_ne (rest := st.map (am_sh base b)) C.1 (am_C.b C) hd hg (fun hc => ht hc p l e base b D cy R s mid args below meth c H locs cells slots la C hla) (fun hc => hf hc p l e base b D cy R s mid args below meth c H locs cells slots la C hla)
theorem am_icmp_ne {sc : Nat × (Nat → Int32)} {k pc q : Nat} {ls st : List Value} {m : am_Mem} {Q : am_Out → am_Mem → Prop} {x y : Int32} {off : Int} {tgt : Nat} (hd : am_jp k pc (.if_icmp .ne off) off tgt q) (ht : ¬ x = y → am_W sc k tgt ls st m Q) (hf : x = y → am_W sc k q ls st m Q) : am_W sc k pc ls (.int y :: .int x :: st) m Q := by
  obtain ⟨hd, hg, rfl⟩ := hd
  intro p l e base b D cy R s mid args below meth c H locs cells slots la C hla
  exact lv_icmp_ne (rest := st.map (am_sh base b)) C.1 (am_C.b C) hd hg (fun hc => ht hc p l e base b D cy R s mid args below meth c H locs cells slots la C hla) (fun hc => hf hc p l e base b D cy R s mid args below meth c H locs cells slots la C hla)
theorem am_if_lt {sc : Nat × (Nat → Int32)} {k pc q : Nat} {ls st : List Value} {m : am_Mem} {Q : am_Out → am_Mem → Prop} {x : Int32} {off : Int} {tgt : Nat} (hd : am_jp k pc (.ifCond .lt off) off tgt q) (ht : x < 0 → am_W sc k tgt ls st m Q) (hf : ¬ x < 0 → am_W sc k q ls st m Q) : am_W sc k pc ls (.int x :: st) m Q := by
  obtain ⟨hd, hg, rfl⟩ := hd
  intro p l e base b D cy R s mid args below meth c H locs cells slots la C hla
  exact lv_if_lt (rest := st.map (am_sh base b)) C.1 (am_C.b C) hd hg (fun hc => ht hc p l e base b D cy R s mid args below meth c H locs cells slots la C hla) (fun hc => hf hc p l e base b D cy R s mid args below meth c H locs cells slots la C hla)
theorem am_icmp_lt {sc : Nat × (Nat → Int32)} {k pc q : Nat} {ls st : List Value} {m : am_Mem} {Q : am_Out → am_Mem → Prop} {x y : Int32} {off : Int} {tgt : Nat} (hd : am_jp k pc (.if_icmp .lt off) off tgt q) (ht : x < y → am_W sc k tgt ls st m Q) (hf : ¬ x < y → am_W sc k q ls st m Q) : am_W sc k pc ls (.int y :: .int x :: st) m Q := by
  obtain ⟨hd, hg, rfl⟩ := hd
  intro p l e base b D cy R s mid args below meth c H locs cells slots la C hla
  exact lv_icmp_lt (rest := st.map (am_sh base b)) C.1 (am_C.b C) hd hg (fun hc => ht hc p l e base b D cy R s mid args below meth c H locs cells slots la C hla) (fun hc => hf hc p l e base b D cy R s mid args below meth c H locs cells slots la C hla)
theorem am_if_ge {sc : Nat × (Nat → Int32)} {k pc q : Nat} {ls st : List Value} {m : am_Mem} {Q : am_Out → am_Mem → Prop} {x : Int32} {off : Int} {tgt : Nat} (hd : am_jp k pc (.ifCond .ge off) off tgt q) (ht : 0 ≤ x → am_W sc k tgt ls st m Q) (hf : ¬ 0 ≤ x → am_W sc k q ls st m Q) : am_W sc k pc ls (.int x :: st) m Q := by
  obtain ⟨hd, hg, rfl⟩ := hd
  intro p l e base b D cy R s mid args below meth c H locs cells slots la C hla
  exact lv_if_ge (rest := st.map (am_sh base b)) C.1 (am_C.b C) hd hg (fun hc => ht hc p l e base b D cy R s mid args below meth c H locs cells slots la C hla) (fun hc => hf hc p l e base b D cy R s mid args below meth c H locs cells slots la C hla)
theorem am_icmp_ge {sc : Nat × (Nat → Int32)} {k pc q : Nat} {ls st : List Value} {m : am_Mem} {Q : am_Out → am_Mem → Prop} {x y : Int32} {off : Int} {tgt : Nat} (hd : am_jp k pc (.if_icmp .ge off) off tgt q) (ht : y ≤ x → am_W sc k tgt ls st m Q) (hf : ¬ y ≤ x → am_W sc k q ls st m Q) : am_W sc k pc ls (.int y :: .int x :: st) m Q := by
  obtain ⟨hd, hg, rfl⟩ := hd
  intro p l e base b D cy R s mid args below meth c H locs cells slots la C hla
  exact lv_icmp_ge (rest := st.map (am_sh base b)) C.1 (am_C.b C) hd hg (fun hc => ht hc p l e base b D cy R s mid args below meth c H locs cells slots la C hla) (fun hc => hf hc p l e base b D cy R s mid args below meth c H locs cells slots la C hla)
theorem am_if_gt {sc : Nat × (Nat → Int32)} {k pc q : Nat} {ls st : List Value} {m : am_Mem} {Q : am_Out → am_Mem → Prop} {x : Int32} {off : Int} {tgt : Nat} (hd : am_jp k pc (.ifCond .gt off) off tgt q) (ht : 0 < x → am_W sc k tgt ls st m Q) (hf : ¬ 0 < x → am_W sc k q ls st m Q) : am_W sc k pc ls (.int x :: st) m Q := by
  obtain ⟨hd, hg, rfl⟩ := hd
  intro p l e base b D cy R s mid args below meth c H locs cells slots la C hla
  exact lv_if_gt (rest := st.map (am_sh base b)) C.1 (am_C.b C) hd hg (fun hc => ht hc p l e base b D cy R s mid args below meth c H locs cells slots la C hla) (fun hc => hf hc p l e base b D cy R s mid args below meth c H locs cells slots la C hla)
theorem am_icmp_gt {sc : Nat × (Nat → Int32)} {k pc q : Nat} {ls st : List Value} {m : am_Mem} {Q : am_Out → am_Mem → Prop} {x y : Int32} {off : Int} {tgt : Nat} (hd : am_jp k pc (.if_icmp .gt off) off tgt q) (ht : y < x → am_W sc k tgt ls st m Q) (hf : ¬ y < x → am_W sc k q ls st m Q) : am_W sc k pc ls (.int y :: .int x :: st) m Q := by
  obtain ⟨hd, hg, rfl⟩ := hd
  intro p l e base b D cy R s mid args below meth c H locs cells slots la C hla
  exact lv_icmp_gt (rest := st.map (am_sh base b)) C.1 (am_C.b C) hd hg (fun hc => ht hc p l e base b D cy R s mid args below meth c H locs cells slots la C hla) (fun hc => hf hc p l e base b D cy R s mid args below meth c H locs cells slots la C hla)
theorem am_if_le {sc : Nat × (Nat → Int32)} {k pc q : Nat} {ls st : List Value} {m : am_Mem} {Q : am_Out → am_Mem → Prop} {x : Int32} {off : Int} {tgt : Nat} (hd : am_jp k pc (.ifCond .le off) off tgt q) (ht : x ≤ 0 → am_W sc k tgt ls st m Q) (hf : ¬ x ≤ 0 → am_W sc k q ls st m Q) : am_W sc k pc ls (.int x :: st) m Q := by
  obtain ⟨hd, hg, rfl⟩ := hd
  intro p l e base b D cy R s mid args below meth c H locs cells slots la C hla
  exact lv_if_le (rest := st.map (am_sh base b)) C.1 (am_C.b C) hd hg (fun hc => ht hc p l e base b D cy R s mid args below meth c H locs cells slots la C hla) (fun hc => hf hc p l e base b D cy R s mid args below meth c H locs cells slots la C hla)
theorem am_icmp_le {sc : Nat × (Nat → Int32)} {k pc q : Nat} {ls st : List Value} {m : am_Mem} {Q : am_Out → am_Mem → Prop} {x y : Int32} {off : Int} {tgt : Nat} (hd : am_jp k pc (.if_icmp .le off) off tgt q) (ht : x ≤ y → am_W sc k tgt ls st m Q) (hf : ¬ x ≤ y → am_W sc k q ls st m Q) : am_W sc k pc ls (.int y :: .int x :: st) m Q := by
  obtain ⟨hd, hg, rfl⟩ := hd
  intro p l e base b D cy R s mid args below meth c H locs cells slots la C hla
  exact lv_icmp_le (rest := st.map (am_sh base b)) C.1 (am_C.b C) hd hg (fun hc => ht hc p l e base b D cy R s mid args below meth c H locs cells slots la C hla) (fun hc => hf hc p l e base b D cy R s mid args below meth c H locs cells slots la C hla)
theorem am_ifnonnull {sc : Nat × (Nat → Int32)} {k pc q : Nat} {ls st : List Value} {m : am_Mem} {Q : am_Out → am_Mem → Prop} {x : Nat} {off : Int} {tgt : Nat} (hd : am_jp k pc (.ifnonnull off) off tgt q) (ht : ¬ x = 0 → am_W sc k tgt ls st m Q) (hf : x = 0 → am_W sc k q ls st m Q) : am_W sc k pc ls (.ref x :: st) m Q := by
  obtain ⟨hd, hg, rfl⟩ := hd
  intro p l e base b D cy R s mid args below meth c H locs cells slots la C hla
  cases x with
  | zero => exact lv_ifnonnullN (rest := st.map (am_sh base b)) C.1 (am_C.b C) hd (hf rfl p l e base b D cy R s mid args below meth c H locs cells slots la C hla)
  | succ x => exact lv_ifnonnull (rest := st.map (am_sh base b)) C.1 (am_C.b C) hd hg (ht (Nat.succ_ne_zero x) p l e base b D cy R s mid args below meth c H locs cells slots la C hla)
theorem am_tIn {sc : Nat × (Nat → Int32)} {k pc q : Nat} {ls st : List Value} {m : am_Mem} {Q : am_Out → am_Mem → Prop} {dflt lo hi : Int} {offs : Array Int} {len : Nat} {x : Int32} {off : Int} (tgt : Nat) (hd : decode (am_b k) pc = .ok (.tableswitch dflt lo hi offs, len)) (h1 : ¬ x.toInt < lo) (h2 : ¬ hi < x.toInt) (ho : offs[(x.toInt - lo).toNat]? = some off) (ht : (pc : Int) + off = (tgt : Int)) (h : am_W sc k tgt ls st m Q) : am_W sc k pc ls (.int x :: st) m Q := by
  intro p l e base b D cy R s mid args below meth c H locs cells slots la C hla
  exact lv_tableIn (rest := st.map (am_sh base b)) C.1 (am_C.b C) hd h1 h2 ho ht (h p l e base b D cy R s mid args below meth c H locs cells slots la C hla)
theorem am_tOut {sc : Nat × (Nat → Int32)} {k pc q : Nat} {ls st : List Value} {m : am_Mem} {Q : am_Out → am_Mem → Prop} {dflt lo hi : Int} {offs : Array Int} {len : Nat} {x : Int32} (tgt : Nat) (hd : decode (am_b k) pc = .ok (.tableswitch dflt lo hi offs, len)) (ho : x.toInt < lo ∨ hi < x.toInt) (ht : (pc : Int) + dflt = (tgt : Int)) (h : am_W sc k tgt ls st m Q) : am_W sc k pc ls (.int x :: st) m Q := by
  intro p l e base b D cy R s mid args below meth c H locs cells slots la C hla
  exact lv_tableOut (rest := st.map (am_sh base b)) C.1 (am_C.b C) hd ho ht (h p l e base b D cy R s mid args below meth c H locs cells slots la C hla)
theorem am_iload {sc : Nat × (Nat → Int32)} {k pc q : Nat} {ls st : List Value} {m : am_Mem} {Q : am_Out → am_Mem → Prop} {i : Nat} {x : Int32} (hd : am_at k pc (.iload i) 2 q) (hl : ls[i]? = some (.int x)) (h : am_W sc k q ls (.int x :: st) m Q) : am_W sc k pc ls st m Q := by
  obtain ⟨hd, rfl⟩ := hd
  intro p l e base b D cy R s mid args below meth c H locs cells slots la C hla
  exact lv_iload (rest := st.map (am_sh base b)) C.1 (am_C.b C) hd (hla.2.2 i _ hl rfl) (h p l e base b D cy R s mid args below meth c H locs cells slots la C hla)
theorem am_iload_n {sc : Nat × (Nat → Int32)} {k pc q : Nat} {ls st : List Value} {m : am_Mem} {Q : am_Out → am_Mem → Prop} {i : Fin 4} {j : Nat} {x : Int32} (hd : am_at k pc (.iload_n i) 1 q) (hj : (i : Nat) = j) (hl : ls[j]? = some (.int x)) (h : am_W sc k q ls (.int x :: st) m Q) : am_W sc k pc ls st m Q := by
  obtain ⟨hd, rfl⟩ := hd
  intro p l e base b D cy R s mid args below meth c H locs cells slots la C hla
  exact lv_iload_n (rest := st.map (am_sh base b)) C.1 (am_C.b C) hd hj (hla.2.2 j _ hl rfl) (h p l e base b D cy R s mid args below meth c H locs cells slots la C hla)
theorem am_lload {sc : Nat × (Nat → Int32)} {k pc q : Nat} {ls st : List Value} {m : am_Mem} {Q : am_Out → am_Mem → Prop} {i : Nat} {x : Int64} (hd : am_at k pc (.lload i) 2 q) (hl : ls[i]? = some (.long x)) (h : am_W sc k q ls (.long x :: st) m Q) : am_W sc k pc ls st m Q := by
  obtain ⟨hd, rfl⟩ := hd
  intro p l e base b D cy R s mid args below meth c H locs cells slots la C hla
  exact lv_lload (rest := st.map (am_sh base b)) C.1 (am_C.b C) hd (hla.2.2 i _ hl rfl) (h p l e base b D cy R s mid args below meth c H locs cells slots la C hla)
theorem am_lload_n {sc : Nat × (Nat → Int32)} {k pc q : Nat} {ls st : List Value} {m : am_Mem} {Q : am_Out → am_Mem → Prop} {i : Fin 4} {j : Nat} {x : Int64} (hd : am_at k pc (.lload_n i) 1 q) (hj : (i : Nat) = j) (hl : ls[j]? = some (.long x)) (h : am_W sc k q ls (.long x :: st) m Q) : am_W sc k pc ls st m Q := by
  obtain ⟨hd, rfl⟩ := hd
  intro p l e base b D cy R s mid args below meth c H locs cells slots la C hla
  exact lv_lload_n (rest := st.map (am_sh base b)) C.1 (am_C.b C) hd hj (hla.2.2 j _ hl rfl) (h p l e base b D cy R s mid args below meth c H locs cells slots la C hla)
theorem am_aload {sc : Nat × (Nat → Int32)} {k pc q : Nat} {ls st : List Value} {m : am_Mem} {Q : am_Out → am_Mem → Prop} {i : Nat} {x : Nat} (hd : am_at k pc (.aload i) 2 q)  (hl : ls[i]? = some (.ref x)) (h : am_W sc k q ls (.ref x :: st) m Q) : am_W sc k pc ls st m Q := by
  obtain ⟨hd, rfl⟩ := hd
  intro p l e base b D cy R s mid args below meth c H locs cells slots la C hla
  cases x with
  | zero => exact lv_aloadN (rest := st.map (am_sh base b)) C.1 (am_C.b C) hd (hla.2.2 i _ hl rfl) (h p l e base b D cy R s mid args below meth c H locs cells slots la C hla)
  | succ x => exact lv_aload (rest := st.map (am_sh base b)) C.1 (am_C.b C) hd (hla.2.2 i _ hl rfl) (h p l e base b D cy R s mid args below meth c H locs cells slots la C hla)
theorem am_sload {sc : Nat × (Nat → Int32)} {k pc q : Nat} {ls st : List Value} {m : am_Mem} {Q : am_Out → am_Mem → Prop} {i : Nat} (hd : am_at k pc (.aload i) 2 q)  (hl : ls[i]? = some (.retAddr 0)) (h : am_W sc k q ls (.retAddr 0 :: st) m Q) : am_W sc k pc ls st m Q := by
  obtain ⟨hd, rfl⟩ := hd
  intro p l e base b D cy R s mid args below meth c H locs cells slots la C hla
  exact lv_aload (rest := st.map (am_sh base b)) C.1 (am_C.b C) hd (hla.2.2 i _ hl rfl) (h p l e base b D cy R s mid args below meth c H locs cells slots la C hla)
theorem am_aload_n {sc : Nat × (Nat → Int32)} {k pc q : Nat} {ls st : List Value} {m : am_Mem} {Q : am_Out → am_Mem → Prop} {i : Fin 4} {j : Nat} {x : Nat} (hd : am_at k pc (.aload_n i) 1 q) (hj : (i : Nat) = j) (hl : ls[j]? = some (.ref x)) (h : am_W sc k q ls (.ref x :: st) m Q) : am_W sc k pc ls st m Q := by
  obtain ⟨hd, rfl⟩ := hd
  intro p l e base b D cy R s mid args below meth c H locs cells slots la C hla
  cases x with
  | zero => exact lv_aload_nN (rest := st.map (am_sh base b)) C.1 (am_C.b C) hd hj (hla.2.2 j _ hl rfl) (h p l e base b D cy R s mid args below meth c H locs cells slots la C hla)
  | succ x => exact lv_aload_n (rest := st.map (am_sh base b)) C.1 (am_C.b C) hd hj (hla.2.2 j _ hl rfl) (h p l e base b D cy R s mid args below meth c H locs cells slots la C hla)
theorem am_sload_n {sc : Nat × (Nat → Int32)} {k pc q : Nat} {ls st : List Value} {m : am_Mem} {Q : am_Out → am_Mem → Prop} {i : Fin 4} {j : Nat} (hd : am_at k pc (.aload_n i) 1 q) (hj : (i : Nat) = j) (hl : ls[j]? = some (.retAddr 0)) (h : am_W sc k q ls (.retAddr 0 :: st) m Q) : am_W sc k pc ls st m Q := by
  obtain ⟨hd, rfl⟩ := hd
  intro p l e base b D cy R s mid args below meth c H locs cells slots la C hla
  exact lv_aload_n (rest := st.map (am_sh base b)) C.1 (am_C.b C) hd hj (hla.2.2 j _ hl rfl) (h p l e base b D cy R s mid args below meth c H locs cells slots la C hla)
def am_ll (base b : Nat) (ls : List Value) : List (Nat × Value) := (List.range ls.length).filterMap (fun i => (ls[i]?).bind (fun v => if am_kn v = true then some (i, am_sh base b v) else none))
theorem am_ll_of {base b : Nat} {ls : List Value} {i : Nat} {v : Value} (h : ls[i]? = some v) (hk : am_kn v = true) : (i, am_sh base b v) ∈ am_ll base b ls := by
  refine List.mem_filterMap.mpr ⟨i, List.mem_range.mpr (List.getElem?_eq_some_iff.mp h).1, ?_⟩
  rw [h]
  show (if am_kn v = true then _ else _) = _
  rw [if_pos hk]
theorem am_ll_to {base b : Nat} {ls : List Value} {q : Nat × Value} (h : q ∈ am_ll base b ls) : ∃ v, ls[q.1]? = some v ∧ am_kn v = true ∧ q.2 = am_sh base b v := by
  obtain ⟨i, -, hi⟩ := List.mem_filterMap.mp h
  cases hv : ls[i]? with
  | none => rw [hv] at hi; cases hi
  | some v =>
    rw [hv] at hi
    by_cases hk : am_kn v = true
    · have h2 : (if am_kn v = true then some (i, am_sh base b v) else none) = some q := hi
      rw [if_pos hk] at h2
      cases h2
      exact ⟨v, hv, hk, rfl⟩
    · have h2 : (if am_kn v = true then some (i, am_sh base b v) else none) = some q := hi
      rw [if_neg hk] at h2
      cases h2
theorem am_ls.has {base b nL : Nat} {ls : List Value} {la : Array Slot} (h : am_ls base b ls la nL) : lv_has la nL (am_ll base b ls) :=
  ⟨h.1, h.2.1, fun q hq => by obtain ⟨v, h1, h2, h3⟩ := am_ll_to hq; rw [h3]; exact h.2.2 _ _ h1 h2⟩
/-- the place before i doesn't hold a wide value -/
def am_nw (ls : List Value) (i : Nat) : Bool := match i with
  | 0 => true
  | j + 1 => match ls[j]? with
    | some v => decide (v.category ≠ 2)
    | none => true
theorem am_nw_of {ls : List Value} {i j : Nat} {v : Value} (h : am_nw ls i = true) (hj : j + 1 = i) (hv : ls[j]? = some v) : v.category ≠ 2 := by
  subst hj
  simp only [am_nw, hv] at h
  exact of_decide_eq_true h
theorem am_ls_st1 {base b nL i : Nat} {ls : List Value} {la : Array Slot} {v : Value} (hw : am_nw ls i = true) (h : lv_has la nL ((i, am_sh base b v) :: (am_ll base b ls).filter (fun q => !(q.1 == i) && !(q.1 + 1 == i && q.2.category == 2)))) : am_ls base b (ls.set i v) la nL := by
  refine ⟨h.1, h.2.1, fun j w hj hk => ?_⟩
  by_cases hi : j = i
  · subst hi
    have h9 : (ls.set j v)[j]? = some v := by
      have hlt : j < (ls.set j v).length := (List.getElem?_eq_some_iff.mp hj).1
      rw [List.length_set] at hlt
      rw [List.getElem?_set_self hlt]
    rw [h9] at hj
    cases hj
    exact h.2.2 (j, am_sh base b v) List.mem_cons_self
  · rw [List.getElem?_set_ne (fun q => hi q.symm)] at hj
    refine h.2.2 (j, am_sh base b w) (List.mem_cons_of_mem _ (List.mem_filter.mpr ⟨am_ll_of hj hk, ?_⟩))
    have c1 : ¬ (j + 1 = i ∧ (am_sh base b w).category = 2) := fun q => am_nw_of hw q.1 hj (by rw [← am_sh_cat base b w]; exact q.2)
    simp only [Bool.and_eq_true, Bool.not_eq_true', beq_eq_false_iff_ne, ne_eq, Bool.and_eq_false_iff]
    refine ⟨hi, ?_⟩
    by_cases c2 : j + 1 = i
    · exact Or.inr (fun q => c1 ⟨c2, q⟩)
    · exact Or.inl c2
theorem am_ls_st2 {base b nL i : Nat} {ls : List Value} {la : Array Slot} {v : Value} (hw : am_nw ls i = true) (h : lv_has la nL ((i, am_sh base b v) :: (am_ll base b ls).filter (fun q => !(q.1 == i) && (!(q.1 == i + 1) && !(q.1 + 1 == i && q.2.category == 2))))) : am_ls base b ((ls.set i v).set (i + 1) (.retAddr 1)) la nL := by
  refine ⟨h.1, h.2.1, fun j w hj hk => ?_⟩
  by_cases hi1 : j = i + 1
  · subst hi1
    have hlt : i + 1 < ((ls.set i v).set (i + 1) (.retAddr 1)).length := (List.getElem?_eq_some_iff.mp hj).1
    rw [List.length_set] at hlt
    rw [List.getElem?_set_self hlt] at hj
    cases hj
    cases hk
  · rw [List.getElem?_set_ne (fun q => hi1 q.symm)] at hj
    by_cases hi : j = i
    · subst hi
      have hlt : j < (ls.set j v).length := (List.getElem?_eq_some_iff.mp hj).1
      rw [List.length_set] at hlt
      rw [List.getElem?_set_self hlt] at hj
      cases hj
      exact h.2.2 (j, am_sh base b v) List.mem_cons_self
    · rw [List.getElem?_set_ne (fun q => hi q.symm)] at hj
      refine h.2.2 (j, am_sh base b w) (List.mem_cons_of_mem _ (List.mem_filter.mpr ⟨am_ll_of hj hk, ?_⟩))
      have c1 : ¬ (j + 1 = i ∧ (am_sh base b w).category = 2) := fun q => am_nw_of hw q.1 hj (by rw [← am_sh_cat base b w]; exact q.2)
      simp only [Bool.and_eq_true, Bool.not_eq_true', beq_eq_false_iff_ne, ne_eq, Bool.and_eq_false_iff]
      refine ⟨hi, hi1, ?_⟩
      by_cases c2 : j + 1 = i
      · exact Or.inr (fun q => c1 ⟨c2, q⟩)
      · exact Or.inl c2
theorem am_istore {sc : Nat × (Nat → Int32)} {k pc q : Nat} {ls st : List Value} {m : am_Mem} {Q : am_Out → am_Mem → Prop} {i : Nat} {x : Int32} (hd : am_at k pc (.istore i) 2 q)  (hn : i < am_ml k) (hw : am_nw ls i = true) (h : am_W sc k q (ls.set i (.int x)) st m Q) : am_W sc k pc ls (.int x :: st) m Q := by
  obtain ⟨hd, rfl⟩ := hd
  intro p l e base b D cy R s mid args below meth c H locs cells slots la C hla
  exact lv_istore (rest := st.map (am_sh base b)) C.1 (am_C.b C) hd hla.has hn rfl (fun la2 hh => h p l e base b D cy R s mid args below meth c H locs cells slots la2 C (am_ls_st1 hw hh))
theorem am_lstore {sc : Nat × (Nat → Int32)} {k pc q : Nat} {ls st : List Value} {m : am_Mem} {Q : am_Out → am_Mem → Prop} {i : Nat} {x : Int64} (hd : am_at k pc (.lstore i) 2 q)  (hn : i + 1 < am_ml k) (hw : am_nw ls i = true) (h : am_W sc k q ((ls.set i (.long x)).set (i + 1) (.retAddr 1)) st m Q) : am_W sc k pc ls (.long x :: st) m Q := by
  obtain ⟨hd, rfl⟩ := hd
  intro p l e base b D cy R s mid args below meth c H locs cells slots la C hla
  exact lv_lstore (rest := st.map (am_sh base b)) C.1 (am_C.b C) hd hla.has hn rfl (fun la2 hh => h p l e base b D cy R s mid args below meth c H locs cells slots la2 C (am_ls_st2 hw hh))
theorem am_astore {sc : Nat × (Nat → Int32)} {k pc q : Nat} {ls st : List Value} {m : am_Mem} {Q : am_Out → am_Mem → Prop} {i : Nat} {x : Nat} (hd : am_at k pc (.astore i) 2 q)  (hn : i < am_ml k) (hw : am_nw ls i = true) (h : am_W sc k q (ls.set i (.ref x)) st m Q) : am_W sc k pc ls (.ref x :: st) m Q := by
  obtain ⟨hd, rfl⟩ := hd
  intro p l e base b D cy R s mid args below meth c H locs cells slots la C hla
  cases x with
  | zero => exact lv_astoreN (rest := st.map (am_sh base b)) C.1 (am_C.b C) hd hla.has hn rfl (fun la2 hh => h p l e base b D cy R s mid args below meth c H locs cells slots la2 C (am_ls_st1 hw hh))
  | succ x => exact lv_astore (rest := st.map (am_sh base b)) C.1 (am_C.b C) hd hla.has hn rfl (fun la2 hh => h p l e base b D cy R s mid args below meth c H locs cells slots la2 C (am_ls_st1 hw hh))
theorem am_istore_n {sc : Nat × (Nat → Int32)} {k pc q : Nat} {ls st : List Value} {m : am_Mem} {Q : am_Out → am_Mem → Prop} {i : Fin 4} {j : Nat} {x : Int32} (hd : am_at k pc (.istore_n i) 1 q) (hj : (i : Nat) = j) (hn : j < am_ml k) (hw : am_nw ls j = true) (h : am_W sc k q (ls.set j (.int x)) st m Q) : am_W sc k pc ls (.int x :: st) m Q := by
  obtain ⟨hd, rfl⟩ := hd
  intro p l e base b D cy R s mid args below meth c H locs cells slots la C hla
  exact lv_istore_n (rest := st.map (am_sh base b)) C.1 (am_C.b C) hd hj hla.has hn rfl (fun la2 hh => h p l e base b D cy R s mid args below meth c H locs cells slots la2 C (am_ls_st1 hw hh))
theorem am_lstore_n {sc : Nat × (Nat → Int32)} {k pc q : Nat} {ls st : List Value} {m : am_Mem} {Q : am_Out → am_Mem → Prop} {i : Fin 4} {j : Nat} {x : Int64} (hd : am_at k pc (.lstore_n i) 1 q) (hj : (i : Nat) = j) (hn : j + 1 < am_ml k) (hw : am_nw ls j = true) (h : am_W sc k q ((ls.set j (.long x)).set (j + 1) (.retAddr 1)) st m Q) : am_W sc k pc ls (.long x :: st) m Q := by
  obtain ⟨hd, rfl⟩ := hd
  intro p l e base b D cy R s mid args below meth c H locs cells slots la C hla
  exact lv_lstore_n (rest := st.map (am_sh base b)) C.1 (am_C.b C) hd hj hla.has hn rfl (fun la2 hh => h p l e base b D cy R s mid args below meth c H locs cells slots la2 C (am_ls_st2 hw hh))
theorem am_astore_n {sc : Nat × (Nat → Int32)} {k pc q : Nat} {ls st : List Value} {m : am_Mem} {Q : am_Out → am_Mem → Prop} {i : Fin 4} {j : Nat} {x : Nat} (hd : am_at k pc (.astore_n i) 1 q) (hj : (i : Nat) = j) (hn : j < am_ml k) (hw : am_nw ls j = true) (h : am_W sc k q (ls.set j (.ref x)) st m Q) : am_W sc k pc ls (.ref x :: st) m Q := by
  obtain ⟨hd, rfl⟩ := hd
  intro p l e base b D cy R s mid args below meth c H locs cells slots la C hla
  cases x with
  | zero => exact lv_astore_nN (rest := st.map (am_sh base b)) C.1 (am_C.b C) hd hj hla.has hn rfl (fun la2 hh => h p l e base b D cy R s mid args below meth c H locs cells slots la2 C (am_ls_st1 hw hh))
  | succ x => exact lv_astore_n (rest := st.map (am_sh base b)) C.1 (am_C.b C) hd hj hla.has hn rfl (fun la2 hh => h p l e base b D cy R s mid args below meth c H locs cells slots la2 C (am_ls_st1 hw hh))
theorem am_iinc {sc : Nat × (Nat → Int32)} {k pc q : Nat} {ls st : List Value} {m : am_Mem} {Q : am_Out → am_Mem → Prop} {i : Nat} {d : Int} {x v : Int32} (hd : am_at k pc (.iinc i d) 3 q) (hl : ls[i]? = some (.int x)) (hv : x + Int32.ofInt d = v) (hn : i < am_ml k) (hw : am_nw ls i = true) (h : am_W sc k q (ls.set i (.int v)) st m Q) : am_W sc k pc ls st m Q := by
  obtain ⟨hd, rfl⟩ := hd
  intro p l e base b D cy R s mid args below meth c H locs cells slots la C hla
  obtain ⟨j, hj⟩ := List.getElem?_of_mem (am_ll_of (base := base) (b := b) hl rfl)
  exact lv_iinc (rest := st.map (am_sh base b)) C.1 (am_C.b C) hd hla.has hj hv hn rfl (fun la2 hh => h p l e base b D cy R s mid args below meth c H locs cells slots la2 C (am_ls_st1 hw hh))
end
section
/-! memory and cells -/
theorem am_ws_get {base : Nat} {cy : Nat → ClassId} {m : am_Mem} {i : Nat} (h : i < am_n m) : (am_ws base cy m)[i]? = some (base + i, am_cell base cy m (i + 1)) := by
  simp [am_ws, h]
theorem am_ws_len {base : Nat} {cy : Nat → ClassId} {m : am_Mem} : (am_ws base cy m).length = am_n m := by simp [am_ws]
theorem am_ws_at {base : Nat} {cy : Nat → ClassId} {m : am_Mem} {i : Nat} {q : Nat × va_E} (h : (am_ws base cy m)[i]? = some q) : i < am_n m ∧ q = (base + i, am_cell base cy m (i + 1)) := by
  have hl : i < am_n m := by
    have := (List.getElem?_eq_some_iff.mp h).1
    rwa [am_ws_len] at this
  rw [am_ws_get hl] at h
  exact ⟨hl, (Option.some.inj h).symm⟩
theorem am_ws_D {base : Nat} {cy : Nat → ClassId} {m : am_Mem} : va_D (fun q => base ≤ q) (am_ws base cy m) := by
  refine ⟨fun i j p q hp hq e => ?_, fun k q hk => ?_⟩
  · obtain ⟨-, rfl⟩ := am_ws_at hp
    obtain ⟨-, rfl⟩ := am_ws_at hq
    have e2 : base + i = base + j := e
    omega
  · obtain ⟨-, rfl⟩ := am_ws_at hk
    exact Nat.le_add_right _ _
theorem am_K_ix {m : am_Mem} (hO : am_Ok m) {a c : Nat} (hk : am_K m a = c) (hc : c ≠ 99) : ∃ i, a = i + 1 ∧ i < am_n m := by
  cases a with
  | zero => exact absurd ((hO 0 (Or.inl rfl)).symm.trans hk).symm hc
  | succ i =>
    by_cases h : am_n m < i + 1
    · exact absurd ((hO (i + 1) (Or.inr h)).symm.trans hk).symm hc
    · exact ⟨i, rfl, by omega⟩
theorem am_fl_congr {base : Nat} {m m' : am_Mem} {a : Nat} (hI : ∀ j, am_I m' a j = am_I m a j) (hJ : ∀ j, am_J m' a j = am_J m a j) (hR : ∀ j, am_R m' a j = am_R m a j) : ∀ (ks : List Nat) (j : Nat), am_fl base m' a ks j = am_fl base m a ks j := by
  intro ks
  induction ks with
  | nil => intro j; rfl
  | cons kd r ih =>
    intro j
    have h1 : am_fv base m' a kd j = am_fv base m a kd j := by
      unfold am_fv
      rw [hI, hJ, hR]
    simp only [am_fl, h1, ih]
theorem am_cell_congr {base : Nat} {cy : Nat → ClassId} {m m' : am_Mem} {a : Nat} (hK : am_K m' a = am_K m a) (hL : am_L m' a = am_L m a) (hI : ∀ j, am_I m' a j = am_I m a j) (hJ : ∀ j, am_J m' a j = am_J m a j) (hR : ∀ j, am_R m' a j = am_R m a j) : am_cell base cy m' a = am_cell base cy m a := by
  have e1 : am_I m' a = am_I m a := funext hI
  have e2 : am_J m' a = am_J m a := funext hJ
  unfold am_cell am_ac
  simp only [hK, hL, e1, e2, hR, am_fl_congr hI hJ hR]
theorem am_fl_len {base : Nat} {m : am_Mem} {a : Nat} : ∀ (ks : List Nat) (j : Nat), (am_fl base m a ks j).length = ks.length := by
  intro ks
  induction ks with
  | nil => intro j; rfl
  | cons kd r ih => intro j; simp [am_fl, ih]
theorem am_fl_get {base : Nat} {m : am_Mem} {a : Nat} : ∀ (ks : List Nat) (j i kd : Nat), ks[i]? = some kd → (am_fl base m a ks j)[i]? = some (am_fv base m a kd (j + i)) := by
  intro ks
  induction ks with
  | nil => intro j i kd h; simp at h
  | cons k0 r ih =>
    intro j i kd h
    cases i with
    | zero =>
      simp at h
      subst h
      rfl
    | succ i =>
      have h2 := ih (j + 1) i kd (by simpa using h)
      rw [show j + (i + 1) = j + 1 + i by omega, ← h2]
      rfl
theorem am_fl_set {base : Nat} {m m' : am_Mem} {a : Nat} {v : Value} : ∀ (ks : List Nat) (j i kd : Nat), ks[i]? = some kd → (∀ kd' j', j' ≠ j + i → am_fv base m' a kd' j' = am_fv base m a kd' j') → am_fv base m' a kd (j + i) = v → am_fl base m' a ks j = (am_fl base m a ks j).set i v := by
  intro ks
  induction ks with
  | nil => intro j i kd h; simp at h
  | cons k0 r ih =>
    intro j i kd h ho hv
    cases i with
    | zero =>
      simp at h
      subst h
      have ht : ∀ (r : List Nat) (j1 : Nat), j < j1 → am_fl base m' a r j1 = am_fl base m a r j1 := by
        intro r
        induction r with
        | nil => intro j1 _; rfl
        | cons k1 r ih2 =>
          intro j1 hj
          simp only [am_fl]
          rw [ho k1 j1 (by omega), ih2 (j1 + 1) (by omega)]
      simp only [am_fl, List.set_cons_zero]
      rw [ht r (j + 1) (by omega)]
      rw [show am_fv base m' a k0 j = v from hv]
    | succ i =>
      simp only [am_fl, List.set_cons_succ]
      rw [ho k0 j (by omega), ih (j + 1) i kd (by simpa using h) (fun kd' j' hj => ho kd' j' (by omega)) (by rw [show j + 1 + i = j + (i + 1) by omega]; exact hv)]
theorem am_ws_upd {base : Nat} {cy : Nat → ClassId} {m m' : am_Mem} {i : Nat} {E : va_E} (h1 : am_n m' = am_n m) (h2 : ∀ c, c ≠ i + 1 → am_cell base cy m' c = am_cell base cy m c) (h3 : am_cell base cy m' (i + 1) = E) : (am_ws base cy m).set i (base + i, E) = am_ws base cy m' := by
  apply List.ext_getElem?
  intro j
  by_cases hj : j < am_n m
  · rw [am_ws_get (m := m') (by rw [h1]; exact hj)]
    by_cases hi : i = j
    · subst hi
      rw [List.getElem?_set_self (by rw [am_ws_len]; exact hj), h3]
    · rw [List.getElem?_set_ne hi, am_ws_get hj, h2 _ (by omega)]
  · have e1 : ((am_ws base cy m).set i (base + i, E))[j]? = none := by
      rw [List.getElem?_eq_none_iff, List.length_set, am_ws_len]; omega
    have e2 : (am_ws base cy m')[j]? = none := by
      rw [List.getElem?_eq_none_iff, am_ws_len, h1]; omega
    rw [e1, e2]
theorem am_ws_new {base : Nat} {cy : Nat → ClassId} {m m' : am_Mem} {E : va_E} (h1 : am_n m' = am_n m + 1) (h2 : ∀ c, c ≤ am_n m → am_cell base cy m' c = am_cell base cy m c) (h3 : am_cell base cy m' (am_n m + 1) = E) : am_ws base cy m ++ [(base + am_n m, E)] = am_ws base cy m' := by
  apply List.ext_getElem?
  intro j
  by_cases hj : j < am_n m
  · rw [am_ws_get (m := m') (by omega), List.getElem?_append_left (by rw [am_ws_len]; exact hj), am_ws_get hj, h2 _ (by omega)]
  · by_cases hj2 : j = am_n m
    · subst hj2
      rw [am_ws_get (m := m') (by omega), List.getElem?_append_right (by rw [am_ws_len]; exact Nat.le_refl _), am_ws_len, Nat.sub_self, h3]
      rfl
    · have e1 : (am_ws base cy m ++ [(base + am_n m, E)])[j]? = none := by
        rw [List.getElem?_eq_none_iff, List.length_append, am_ws_len]; simp; omega
      have e2 : (am_ws base cy m')[j]? = none := by
        rw [List.getElem?_eq_none_iff, am_ws_len]; omega
      rw [e1, e2]
/-- the heap's size out of the frame's own count -/
theorem am_fix {p : Program} {l : Launch} {e : Env} {R : Room} {s : State} {mid : MethodId} {args : Array Value} {below : List Frame} {meth : Method} {c : Code} {H : Heap} {locs : List Loc} {cells slots : Nat} {Q : State → Prop} {g : JFrame} {base : Nat} {D : va_G} {cy : Nat → ClassId} {m : am_Mem}
    (hP : va_P D am_cl (am_ws base cy m) H) (hS : va_S (fun q => base ≤ q) s.heap H locs) (hb : base ≤ s.heap.size) (hex : s.heap.size + cells = base + am_n m)
    (h : H.size = base + am_n m → W p l e R s mid args below meth c H locs cells slots Q g) : W p l e R s mid args below meth c H locs cells slots Q g := by
  intro T hT X
  refine h ?_ T hT X
  have h1 := X.heapSize
  rw [hT] at h1
  have h2 : base + am_n m ≤ H.size := by
    cases hn : am_n m with
    | zero =>
      have := hS.1
      omega
    | succ n =>
      have h3 := (hP n _ (am_ws_get (by omega))).lt
      have h4 : base + n < H.size := h3
      omega
  omega
/-! the classes -/
def am_r (ci : Nat) : vw_C := am_cl.getD ci ("", am_TE, 0)
def am_ty (ci : Nat) : Nat → FieldType := match ci with
  | 0 => tyX0
  | 1 => tyX1
  | 2 => tyX2
  | 3 => tyX3
  | 4 => tyX4
  | 5 => tyX5
  | 6 => tyX6
  | _ => tyX7
def am_kt (kd : Nat) (t : FieldType) : Bool := match kd, t with
  | 0, .int => true
  | 0, .boolean => true
  | 1, .long => true
  | 2, .object _ => true
  | 2, .array _ => true
  | _, _ => false
def am_CP (ci : Nat) : Prop := am_cl[ci]? = some (am_r ci) ∧ (am_r ci).2.2 = (am_fk ci).length ∧ (∀ w ∈ u_ws (am_r ci).1 (am_r ci).2.1 (am_r ci).2.2, w ∈ lw_tbl) ∧ (∀ w ∈ u_ws (am_r ci).1 (am_r ci).2.1 (am_r ci).2.2, goodWord w = true) ∧
  (∀ k, k < (am_r ci).2.2 → parseFieldDescriptor ((am_r ci).2.1 k).2.2.1 = some (am_ty ci k)) ∧ (∀ a, a < (am_r ci).2.2 → ∀ b, b < (am_r ci).2.2 → a ≠ b → ((am_r ci).2.1 a).2.1 ≠ ((am_r ci).2.1 b).2.1) ∧
  (∀ j, j < (am_fk ci).length → am_kt ((am_fk ci).getD j 3) (am_ty ci j) = true)
theorem am_cp0 : am_CP 0 := ⟨rfl, rfl, by decide +kernel, by decide +kernel, tyX0_ok, nmX0, by decide +kernel⟩
theorem am_cp1 : am_CP 1 := ⟨rfl, rfl, by decide +kernel, by decide +kernel, tyX1_ok, nmX1, by decide +kernel⟩
theorem am_cp2 : am_CP 2 := ⟨rfl, rfl, by decide +kernel, by decide +kernel, tyX2_ok, nmX2, by decide +kernel⟩
theorem am_cp3 : am_CP 3 := ⟨rfl, rfl, by decide +kernel, by decide +kernel, tyX3_ok, nmX3, by decide +kernel⟩
theorem am_cp4 : am_CP 4 := ⟨rfl, rfl, by decide +kernel, by decide +kernel, tyX4_ok, nmX4, by decide +kernel⟩
theorem am_cp5 : am_CP 5 := ⟨rfl, rfl, by decide +kernel, by decide +kernel, tyX5_ok, nmX5, by decide +kernel⟩
theorem am_cp6 : am_CP 6 := ⟨rfl, rfl, by decide +kernel, by decide +kernel, tyX6_ok, nmX6, by decide +kernel⟩
theorem am_cp7 : am_CP 7 := ⟨rfl, rfl, by decide +kernel, by decide +kernel, tyX7_ok, nmX7, by decide +kernel⟩
theorem am_cp {ci : Nat} (h : ci < 8) : am_CP ci := by
  match ci, h with
  | 0, _ => exact am_cp0
  | 1, _ => exact am_cp1
  | 2, _ => exact am_cp2
  | 3, _ => exact am_cp3
  | 4, _ => exact am_cp4
  | 5, _ => exact am_cp5
  | 6, _ => exact am_cp6
  | 7, _ => exact am_cp7
end
section
/-! rules of memory -/
def am_fld (k idx ci j kd : Nat) : Prop := ci < 8 ∧ (am_fk ci)[j]? = some kd ∧ Cond.fieldLink (am_y k).cls idx ((am_r ci).2.1 j).1 ((am_r ci).2.1 j).2.1 ((am_r ci).2.1 j).2.2.1 ∈ lw_tbl
def am_av (m : am_Mem) (a kd j : Nat) : Value := match kd with
  | 0 => .int (am_I m a j)
  | 1 => .long (am_J m a j)
  | _ => .ref (am_R m a j)
theorem am_av_sh (base b : Nat) (m : am_Mem) (a kd j : Nat) : am_sh base b (am_av m a kd j) = am_fv base m a kd j := by
  match kd with
  | 0 => rfl
  | 1 => rfl
  | _ + 2 => rfl
theorem am_cell_o {base : Nat} {cy : Nat → ClassId} {m : am_Mem} {a ci : Nat} (h : am_K m a = ci) (hc : ci < 11) : am_cell base cy m a = .inr (ci, am_fl base m a (am_fk ci) 0) := by
  unfold am_cell
  rw [h, if_pos hc]
theorem am_cell_a {base : Nat} {cy : Nat → ClassId} {m : am_Mem} {a ci : Nat} (h : am_K m a = ci) (hc : 11 ≤ ci) : am_cell base cy m a = .inl (cy ci, am_L m a, am_ac base m a) := by
  unfold am_cell
  rw [h, if_neg (by omega)]
theorem am_getf {sc : Nat × (Nat → Int32)} {k pc q : Nat} {ls st : List Value} {m : am_Mem} {Q : am_Out → am_Mem → Prop} {a idx ci j kd : Nat} (hd : am_at k pc (.getfield idx) 3 q) (hf : am_fld k idx ci j kd) (hk : am_K m a = ci) (h : am_W sc k q ls (am_av m a kd j :: st) m Q) : am_W sc k pc ls (.ref a :: st) m Q := by
  obtain ⟨hd, rfl⟩ := hd
  obtain ⟨hci, hkd, hw⟩ := hf
  intro p l e base b D cy R s mid args below meth c H locs cells slots la C hla
  obtain ⟨hP, -, hO⟩ := C.2.2.2.2.2.2.1
  obtain ⟨i, rfl, hi⟩ := am_K_ix hO hk (by omega)
  have cp := am_cp hci
  have hj : j < (am_r ci).2.2 := by rw [cp.2.1]; exact (List.getElem?_eq_some_iff.mp hkd).1
  have he : (am_ws base cy m)[i]? = some (base + i, .inr (ci, am_fl base m (i + 1) (am_fk ci) 0)) := by rw [am_ws_get hi, am_cell_o hk (by omega)]
  have hv := am_fl_get (base := base) (m := m) (a := i + 1) (am_fk ci) 0 j kd hkd
  rw [Nat.zero_add, ← am_av_sh base b] at hv
  exact va_get (rest := st.map (am_sh base b)) (Ts := u_ws (am_r ci).1 (am_r ci).2.1 (am_r ci).2.2) C.1 (am_C.b C) (fun w hw => am_C.w C (cp.2.2.1 w hw) (cp.2.2.2.1 w hw)) (fun w h => h) (am_C.own C) C.2.2.1.2.2.2.2.1 hP i he cp.1 j hj (am_C.w C hw rfl) (fun x h => h) hv hd
    (h p l e base b D cy R s mid args below meth c H locs cells slots la C hla)
/-- a store: the memory of the same cells, H1 holds it -/
theorem am_ctx_put {sc : Nat × (Nat → Int32)} {k : Nat} {m m' : am_Mem} {p : Program} {l : Launch} {base b : Nat} {D : va_G} {cy : Nat → ClassId} {R : Room} {s : State} {mid : MethodId} {meth : Method} {c : Code} {H H1 : Heap} {locs locs1 : List Loc} {cells slots : Nat}
    (C : am_Ctx sc k m p l base b D cy R s mid meth c H locs cells slots) (hP : va_P D am_cl (am_ws base cy m') H1) (hS : va_S (fun q => base ≤ q) s.heap H1 locs1) (hz : H1.size = base + am_n m') (h1 : m'.1 = m.1) (h2 : ∀ a, am_K m' a = am_K m a) :
    am_Ctx sc k m' p l base b D cy R s mid meth c H1 locs1 cells slots := by
  have hn : am_n m' = am_n m := congrArg Prod.fst h1
  have hu : am_u m' = am_u m := congrArg Prod.snd h1
  refine ⟨C.1, C.2.1, C.2.2.1, C.2.2.2.1, C.2.2.2.2.1, ?_, ⟨hP, hz, fun a ha => ?_⟩, hS, ?_⟩
  · have := C.2.2.2.2.2.1
    unfold am_Rm at this ⊢
    rw [hn, hu]
    exact this
  · rw [hn] at ha
    rw [h2]
    exact C.2.2.2.2.2.2.1.2.2 a ha
  · rw [hn]
    exact C.2.2.2.2.2.2.2.2
/-- may this method write that field: it isn't final, or this is the class's own constructor -/
def am_pf (k ci j : Nat) : Bool := !((am_r ci).2.1 j).2.2.2 || (decide ((am_y k).name = "<init>") && decide (((am_r ci).2.1 j).1 = (am_y k).cls))
theorem am_putf {sc : Nat × (Nat → Int32)} {k pc q : Nat} {ls st : List Value} {m m' : am_Mem} {Q : am_Out → am_Mem → Prop} {a idx ci j kd : Nat} {v : Value} (hd : am_at k pc (.putfield idx) 3 q) (hf : am_fld k idx ci j kd) (hpf : am_pf k ci j = true) (hk : am_K m a = ci)
    (hty : ∀ base b, narrow (am_ty ci j) (am_sh base b v) = am_sh base b v ∧ fits (am_ty ci j) (am_sh base b v) = true)
    (h1 : m'.1 = m.1) (h2 : ∀ c, am_K m' c = am_K m c) (h3 : ∀ base cy c, c ≠ a → am_cell base cy m' c = am_cell base cy m c) (h4 : ∀ base b, am_fl base m' a (am_fk ci) 0 = (am_fl base m a (am_fk ci) 0).set j (am_sh base b v))
    (h : am_W sc k q ls st m' Q) : am_W sc k pc ls (v :: .ref a :: st) m Q := by
  obtain ⟨hd, rfl⟩ := hd
  obtain ⟨hci, hkd, hw⟩ := hf
  intro p l e base b D cy R s mid args below meth c H locs cells slots la C hla
  obtain ⟨hP, hz0, hO⟩ := C.2.2.2.2.2.2.1
  obtain ⟨i, rfl, hi⟩ := am_K_ix hO hk (by omega)
  have cp := am_cp hci
  have hjl := (List.getElem?_eq_some_iff.mp hkd).1
  have hj : j < (am_r ci).2.2 := by rw [cp.2.1]; exact hjl
  have he : (am_ws base cy m)[i]? = some (base + i, .inr (ci, am_fl base m (i + 1) (am_fk ci) 0)) := by rw [am_ws_get hi, am_cell_o hk (by omega)]
  have hws : (am_ws base cy m).set i (base + i, .inr (ci, (am_fl base m (i + 1) (am_fk ci) 0).set j (am_sh base b v))) = am_ws base cy m' :=
    am_ws_upd (congrArg Prod.fst h1) (fun c hc => h3 base cy c hc) (by rw [am_cell_o ((h2 (i + 1)).trans hk) (by omega), h4 base b])
  have kk : ∀ (H1 : Heap) (locs1 : List Loc), va_P D am_cl ((am_ws base cy m).set i (base + i, .inr (ci, (am_fl base m (i + 1) (am_fk ci) 0).set j (am_sh base b v)))) H1 → va_D (fun q => base ≤ q) ((am_ws base cy m).set i (base + i, .inr (ci, (am_fl base m (i + 1) (am_fk ci) 0).set j (am_sh base b v)))) → va_S (fun q => base ≤ q) s.heap H1 locs1 →
      W p l e R s mid args below meth c H1 locs1 cells slots (am_End base b D cy R s below Q) (F0 mid (pc + 3) la (st.map (am_sh base b))) := by
    intro H1 locs1 hP1 _ hS1
    rw [hws] at hP1
    refine am_fix hP1 hS1 C.2.2.1.2.2.2.2.2.2.2.1 (by rw [show am_n m' = am_n m from congrArg Prod.fst h1]; exact C.2.2.2.2.2.2.2.2) (fun hz => ?_)
    exact h p l e base b D cy R s mid args below meth c H1 locs1 cells slots la (am_ctx_put C hP1 hS1 hz h1 h2) hla
  have hl : j < (am_fl base m (i + 1) (am_fk ci) 0).length := by rw [am_fl_len]; exact hjl
  by_cases hfin : ((am_r ci).2.1 j).2.2.2 = true
  · simp only [am_pf, hfin, Bool.not_true, Bool.false_or, Bool.and_eq_true, decide_eq_true_eq] at hpf
    exact va_putF (rest := st.map (am_sh base b)) (Ts := u_ws (am_r ci).1 (am_r ci).2.1 (am_r ci).2.2) C.1 (am_C.b C) (fun w hw => am_C.w C (cp.2.2.1 w hw) (cp.2.2.2.1 w hw)) (fun w h => h) (am_ty ci) cp.2.2.2.2.1 cp.2.2.2.2.2.1 (am_C.own C) C.2.2.1.2.2.2.2.1 hP am_ws_D C.2.2.2.2.2.2.2.1 i he cp.1 j hj (am_C.w C hw rfl) (fun x h => h) hfin
      (by rw [C.2.2.2.1.2.2.2.2.2.1]; exact hpf.1) hpf.2 (cp.2.2.2.2.1 j hj) (hty base b).1 (hty base b).2 hl hd kk
  · exact va_put (rest := st.map (am_sh base b)) (Ts := u_ws (am_r ci).1 (am_r ci).2.1 (am_r ci).2.2) C.1 (am_C.b C) (fun w hw => am_C.w C (cp.2.2.1 w hw) (cp.2.2.2.1 w hw)) (fun w h => h) (am_ty ci) cp.2.2.2.2.1 cp.2.2.2.2.2.1 (am_C.own C) C.2.2.1.2.2.2.2.1 hP am_ws_D C.2.2.2.2.2.2.2.1 i he cp.1 j hj (am_C.w C hw rfl) (fun x h => h) (by simpa using hfin)
      (cp.2.2.2.2.1 j hj) (hty base b).1 (hty base b).2 hl hd kk
theorem am_putI {sc : Nat × (Nat → Int32)} {k pc q : Nat} {ls st : List Value} {m : am_Mem} {Q : am_Out → am_Mem → Prop} {a idx ci j : Nat} {x : Int32} (hd : am_at k pc (.putfield idx) 3 q) (hf : am_fld k idx ci j 0) (hpf : am_pf k ci j = true) (hk : am_K m a = ci) (hty : am_ty ci j = .int)
    (h : am_W sc k q ls st (am_setI m a j x) Q) : am_W sc k pc ls (.int x :: .ref a :: st) m Q := by
  refine am_putf (m' := am_setI m a j x) hd hf hpf hk (fun base b => by rw [hty]; exact ⟨rfl, rfl⟩) rfl (fun _ => rfl) (fun base cy c hc => am_cell_congr rfl rfl (fun i => ?_) (fun _ => rfl) (fun _ => rfl)) (fun base b => ?_) h
  · show (if c = a ∧ i = j then x else am_I m c i) = am_I m c i
    rw [if_neg (fun q => hc q.1)]
  · refine am_fl_set (am_fk ci) 0 j 0 hf.2.1 (fun kd' j' hj => ?_) ?_
    · unfold am_fv
      split
      · show Value.int (if a = a ∧ j' = j then x else am_I m a j') = .int (am_I m a j')
        rw [if_neg (fun q => hj (by omega))]
      · rfl
      · rfl
    · show Value.int (if a = a ∧ 0 + j = j then x else am_I m a (0 + j)) = .int x
      rw [if_pos ⟨rfl, by omega⟩]
theorem am_putZ {sc : Nat × (Nat → Int32)} {k pc q : Nat} {ls st : List Value} {m : am_Mem} {Q : am_Out → am_Mem → Prop} {a idx ci j : Nat} {x : Int32} (hd : am_at k pc (.putfield idx) 3 q) (hf : am_fld k idx ci j 0) (hpf : am_pf k ci j = true) (hk : am_K m a = ci) (hty : am_ty ci j = .boolean) (hx : x = 0 ∨ x = 1)
    (h : am_W sc k q ls st (am_setI m a j x) Q) : am_W sc k pc ls (.int x :: .ref a :: st) m Q := by
  refine am_putf (m' := am_setI m a j x) hd hf hpf hk (fun base b => by rw [hty]; rcases hx with rfl | rfl <;> exact ⟨rfl, rfl⟩) rfl (fun _ => rfl) (fun base cy c hc => am_cell_congr rfl rfl (fun i => ?_) (fun _ => rfl) (fun _ => rfl)) (fun base b => ?_) h
  · show (if c = a ∧ i = j then x else am_I m c i) = am_I m c i
    rw [if_neg (fun q => hc q.1)]
  · refine am_fl_set (am_fk ci) 0 j 0 hf.2.1 (fun kd' j' hj => ?_) ?_
    · unfold am_fv
      split
      · show Value.int (if a = a ∧ j' = j then x else am_I m a j') = .int (am_I m a j')
        rw [if_neg (fun q => hj (by omega))]
      · rfl
      · rfl
    · show Value.int (if a = a ∧ 0 + j = j then x else am_I m a (0 + j)) = .int x
      rw [if_pos ⟨rfl, by omega⟩]
theorem am_putJ {sc : Nat × (Nat → Int32)} {k pc q : Nat} {ls st : List Value} {m : am_Mem} {Q : am_Out → am_Mem → Prop} {a idx ci j : Nat} {x : Int64} (hd : am_at k pc (.putfield idx) 3 q) (hf : am_fld k idx ci j 1) (hpf : am_pf k ci j = true) (hk : am_K m a = ci) (hty : am_ty ci j = .long)
    (h : am_W sc k q ls st (am_setJ m a j x) Q) : am_W sc k pc ls (.long x :: .ref a :: st) m Q := by
  refine am_putf (m' := am_setJ m a j x) hd hf hpf hk (fun base b => by rw [hty]; exact ⟨rfl, rfl⟩) rfl (fun _ => rfl) (fun base cy c hc => am_cell_congr rfl rfl (fun _ => rfl) (fun i => ?_) (fun _ => rfl)) (fun base b => ?_) h
  · show (if c = a ∧ i = j then x else am_J m c i) = am_J m c i
    rw [if_neg (fun q => hc q.1)]
  · refine am_fl_set (am_fk ci) 0 j 1 hf.2.1 (fun kd' j' hj => ?_) ?_
    · unfold am_fv
      split
      · rfl
      · show Value.long (if a = a ∧ j' = j then x else am_J m a j') = .long (am_J m a j')
        rw [if_neg (fun q => hj (by omega))]
      · rfl
    · show Value.long (if a = a ∧ 0 + j = j then x else am_J m a (0 + j)) = .long x
      rw [if_pos ⟨rfl, by omega⟩]
theorem am_putR {sc : Nat × (Nat → Int32)} {k pc q : Nat} {ls st : List Value} {m : am_Mem} {Q : am_Out → am_Mem → Prop} {a idx ci j : Nat} {x : Nat} (hd : am_at k pc (.putfield idx) 3 q) (hf : am_fld k idx ci j 2) (hpf : am_pf k ci j = true) (hk : am_K m a = ci)
    (h : am_W sc k q ls st (am_setR m a j x) Q) : am_W sc k pc ls (.ref x :: .ref a :: st) m Q := by
  have hci := hf.1
  have hjl := (List.getElem?_eq_some_iff.mp hf.2.1).1
  have h9 := (am_cp hci).2.2.2.2.2.2 j hjl
  rw [List.getD_eq_getElem?_getD, hf.2.1] at h9
  refine am_putf (m' := am_setR m a j x) hd hf hpf hk (fun base b => ?_) rfl (fun _ => rfl) (fun base cy c hc => am_cell_congr rfl rfl (fun _ => rfl) (fun _ => rfl) (fun i => ?_)) (fun base b => ?_) h
  · cases ht : am_ty ci j <;> rw [ht] at h9 <;> first | (cases h9; done) | (cases x <;> exact ⟨rfl, rfl⟩)
  · show (if c = a ∧ i = j then x else am_R m c i) = am_R m c i
    rw [if_neg (fun q => hc q.1)]
  · refine am_fl_set (am_fk ci) 0 j 2 hf.2.1 (fun kd' j' hj => ?_) ?_
    · unfold am_fv
      split
      · rfl
      · rfl
      · show am_rv base (if a = a ∧ j' = j then x else am_R m a j') = am_rv base (am_R m a j')
        rw [if_neg (fun q => hj (by omega))]
    · show am_rv base (if a = a ∧ 0 + j = j then x else am_R m a (0 + j)) = am_rv base x
      rw [if_pos ⟨rfl, by omega⟩]
end
section
/-! arrays, new cells -/
theorem am_tys_at (cy : Nat → ClassId) {j : Nat} (h : j < 8) : (am_tys cy)[j]? = some (cy (11 + j), am_an j) := by
  simp [am_tys, h]
def am_cs (st : List Value) : Nat := (st.map (fun v => v.category)).sum
theorem am_cs_sh (base b : Nat) (st : List Value) : ((st.map (am_sh base b)).map (fun v => v.category)).sum = am_cs st := by
  unfold am_cs
  rw [List.map_map]
  congr 1
  apply List.map_congr_left
  intro v _
  exact am_sh_cat base b v
theorem am_ac_i {base : Nat} {m : am_Mem} {a kd : Nat} (h : am_K m a = kd) (h1 : kd ≠ 12) (h2 : kd < 14) : am_ac base m a = .inl (am_I m a) := by
  unfold am_ac
  rw [h, if_neg h1, if_pos h2]
theorem am_ac_j {base : Nat} {m : am_Mem} {a : Nat} (h : am_K m a = 12) : am_ac base m a = .inr (.inl (am_J m a)) := by
  unfold am_ac
  rw [h, if_pos rfl]
theorem am_ac_r {base : Nat} {m : am_Mem} {a kd : Nat} (h : am_K m a = kd) (h2 : 14 ≤ kd) : am_ac base m a = .inr (.inr (.inr (.inr (fun j => am_ro base (am_R m a j))))) := by
  unfold am_ac
  rw [h, if_neg (by omega), if_neg (by omega)]
theorem am_iald {sc : Nat × (Nat → Int32)} {k pc q : Nat} {ls st : List Value} {m : am_Mem} {Q : am_Out → am_Mem → Prop} {a : Nat} {x : Int32} (hd : am_at k pc .iaload 1 q) (hk : am_K m a = 11) (hx : vp_in x (am_L m a)) (h : am_W sc k q ls (.int (am_I m a x.toNatClampNeg) :: st) m Q) : am_W sc k pc ls (.int x :: .ref a :: st) m Q := by
  obtain ⟨hd, rfl⟩ := hd
  intro p l e base b D cy R s mid args below meth c H locs cells slots la C hla
  obtain ⟨hP, -, hO⟩ := C.2.2.2.2.2.2.1
  obtain ⟨i, rfl, hi⟩ := am_K_ix hO hk (by decide)
  have he := am_ws_get (base := base) (cy := cy) hi
  rw [am_cell_a hk (by decide), am_ac_i hk (by decide) (by decide)] at he
  exact va_iald (rest := st.map (am_sh base b)) C.1 (am_C.b C) C.2.2.1.2.2.2.2.1 hP i 0 he (am_tys_at cy (by decide)) hx hd (h p l e base b D cy R s mid args below meth c H locs cells slots la C hla)
theorem am_zald {sc : Nat × (Nat → Int32)} {k pc q : Nat} {ls st : List Value} {m : am_Mem} {Q : am_Out → am_Mem → Prop} {a : Nat} {x : Int32} (hd : am_at k pc .baload 1 q) (hk : am_K m a = 13) (hx : vp_in x (am_L m a)) (h : am_W sc k q ls (.int (am_I m a x.toNatClampNeg) :: st) m Q) : am_W sc k pc ls (.int x :: .ref a :: st) m Q := by
  obtain ⟨hd, rfl⟩ := hd
  intro p l e base b D cy R s mid args below meth c H locs cells slots la C hla
  obtain ⟨hP, -, hO⟩ := C.2.2.2.2.2.2.1
  obtain ⟨i, rfl, hi⟩ := am_K_ix hO hk (by decide)
  have he := am_ws_get (base := base) (cy := cy) hi
  rw [am_cell_a hk (by decide), am_ac_i hk (by decide) (by decide)] at he
  exact va_zald (rest := st.map (am_sh base b)) C.1 (am_C.b C) C.2.2.1.2.2.2.2.1 hP i 2 he (am_tys_at cy (by decide)) hx hd (h p l e base b D cy R s mid args below meth c H locs cells slots la C hla)
theorem am_lald {sc : Nat × (Nat → Int32)} {k pc q : Nat} {ls st : List Value} {m : am_Mem} {Q : am_Out → am_Mem → Prop} {a : Nat} {x : Int32} (hd : am_at k pc .laload 1 q) (hk : am_K m a = 12) (hx : vp_in x (am_L m a)) (h : am_W sc k q ls (.long (am_J m a x.toNatClampNeg) :: st) m Q) : am_W sc k pc ls (.int x :: .ref a :: st) m Q := by
  obtain ⟨hd, rfl⟩ := hd
  intro p l e base b D cy R s mid args below meth c H locs cells slots la C hla
  obtain ⟨hP, -, hO⟩ := C.2.2.2.2.2.2.1
  obtain ⟨i, rfl, hi⟩ := am_K_ix hO hk (by decide)
  have he := am_ws_get (base := base) (cy := cy) hi
  rw [am_cell_a hk (by decide), am_ac_j hk] at he
  exact va_lald (rest := st.map (am_sh base b)) C.1 (am_C.b C) C.2.2.1.2.2.2.2.1 hP i 1 he (am_tys_at cy (by decide)) hx hd (h p l e base b D cy R s mid args below meth c H locs cells slots la C hla)
theorem am_aald {sc : Nat × (Nat → Int32)} {k pc q : Nat} {ls st : List Value} {m : am_Mem} {Q : am_Out → am_Mem → Prop} {a ci : Nat} {x : Int32} (hd : am_at k pc .aaload 1 q) (hk : am_K m a = 14 + ci) (hci : ci < 5) (hx : vp_in x (am_L m a)) (h : am_W sc k q ls (.ref (am_R m a x.toNatClampNeg) :: st) m Q) : am_W sc k pc ls (.int x :: .ref a :: st) m Q := by
  obtain ⟨hd, rfl⟩ := hd
  intro p l e base b D cy R s mid args below meth c H locs cells slots la C hla
  obtain ⟨hP, -, hO⟩ := C.2.2.2.2.2.2.1
  obtain ⟨i, rfl, hi⟩ := am_K_ix hO hk (by omega)
  have he := am_ws_get (base := base) (cy := cy) hi
  rw [am_cell_a hk (by omega), am_ac_r hk (by omega)] at he
  obtain ⟨Cn, hCn⟩ : ∃ Cn, am_an (3 + ci) = .object Cn := by
    match ci, hci with
    | 0, _ => exact ⟨_, rfl⟩
    | 1, _ => exact ⟨_, rfl⟩
    | 2, _ => exact ⟨_, rfl⟩
    | 3, _ => exact ⟨_, rfl⟩
    | 4, _ => exact ⟨_, rfl⟩
  have ht := am_tys_at cy (j := 3 + ci) (by omega)
  rw [hCn, show 11 + (3 + ci) = 14 + ci by omega] at ht
  refine va_aldq (rest := st.map (am_sh base b)) C.1 (am_C.b C) C.2.2.1.2.2.2.2.1 hP i (3 + ci) he ht hx hd ?_
  rw [am_ro_rv]
  exact h p l e base b D cy R s mid args below meth c H locs cells slots la C hla
theorem am_alen {sc : Nat × (Nat → Int32)} {k pc q : Nat} {ls st : List Value} {m : am_Mem} {Q : am_Out → am_Mem → Prop} {a kd : Nat} (hd : am_at k pc .arraylength 1 q) (hk : am_K m a = kd) (h11 : 11 ≤ kd) (h18 : kd < 19) (h : am_W sc k q ls (.int (nI (am_L m a)) :: st) m Q) : am_W sc k pc ls (.ref a :: st) m Q := by
  obtain ⟨hd, rfl⟩ := hd
  intro p l e base b D cy R s mid args below meth c H locs cells slots la C hla
  obtain ⟨hP, -, hO⟩ := C.2.2.2.2.2.2.1
  obtain ⟨i, rfl, hi⟩ := am_K_ix hO hk (by omega)
  have he := am_ws_get (base := base) (cy := cy) hi
  rw [am_cell_a hk h11] at he
  have ht := am_tys_at cy (j := kd - 11) (by omega)
  rw [show 11 + (kd - 11) = kd by omega] at ht
  exact va_alen (rest := st.map (am_sh base b)) C.1 (am_C.b C) C.2.2.1.2.2.2.2.1 hP i (kd - 11) he ht rfl hd (h p l e base b D cy R s mid args below meth c H locs cells slots la C hla)
/-- the law's own script -/
theorem am_sld {sc : Nat × (Nat → Int32)} {k pc q : Nat} {ls st : List Value} {m : am_Mem} {Q : am_Out → am_Mem → Prop} {x : Int32} (hd : am_at k pc .iaload 1 q) (hx : vp_in x sc.1) (h : am_W sc k q ls (.int (sc.2 x.toNatClampNeg) :: st) m Q) : am_W sc k pc ls (.int x :: .retAddr 0 :: st) m Q := by
  obtain ⟨hd, rfl⟩ := hd
  intro p l e base b D cy R s mid args below meth c H locs cells slots la C hla
  obtain ⟨-, -, -, -, -, hX, hbb, hbs, -⟩ := C.2.2.1
  exact va_sld (rest := st.map (am_sh base b)) C.1 (am_C.b C) hX (Nat.lt_of_lt_of_le hbb hbs) (show ¬ base ≤ b from Nat.not_le.mpr hbb) C.2.2.2.2.2.2.2.1 hx hd (h p l e base b D cy R s mid args below meth c H locs cells slots la C hla)
theorem am_slen {sc : Nat × (Nat → Int32)} {k pc q : Nat} {ls st : List Value} {m : am_Mem} {Q : am_Out → am_Mem → Prop} (hd : am_at k pc .arraylength 1 q) (h : am_W sc k q ls (.int (nI sc.1) :: st) m Q) : am_W sc k pc ls (.retAddr 0 :: st) m Q := by
  obtain ⟨hd, rfl⟩ := hd
  intro p l e base b D cy R s mid args below meth c H locs cells slots la C hla
  obtain ⟨-, -, -, -, -, hX, hbb, hbs, -⟩ := C.2.2.1
  exact va_slen (rest := st.map (am_sh base b)) C.1 (am_C.b C) hX (Nat.lt_of_lt_of_le hbb hbs) (show ¬ base ≤ b from Nat.not_le.mpr hbb) C.2.2.2.2.2.2.2.1 hd (h p l e base b D cy R s mid args below meth c H locs cells slots la C hla)
theorem am_iast {sc : Nat × (Nat → Int32)} {k pc q : Nat} {ls st : List Value} {m : am_Mem} {Q : am_Out → am_Mem → Prop} {a : Nat} {x : Int32} {y : Int32} (hd : am_at k pc .iastore 1 q) (hk : am_K m a = 11) (hx : vp_in x (am_L m a)) (h : am_W sc k q ls st (am_setI m a x.toNatClampNeg y) Q) : am_W sc k pc ls (.int y :: .int x :: .ref a :: st) m Q := by
  obtain ⟨hd, rfl⟩ := hd
  intro p l e base b D cy R s mid args below meth c H locs cells slots la C hla
  obtain ⟨hP, hz0, hO⟩ := C.2.2.2.2.2.2.1
  obtain ⟨i, rfl, hi⟩ := am_K_ix hO hk (by decide)
  have he := am_ws_get (base := base) (cy := cy) hi
  rw [am_cell_a hk (by decide), am_ac_i hk (by decide) (by decide)] at he
  have hws : (am_ws base cy m).set i (base + i, .inl (cy 11, am_L m (i + 1), .inl (upd (am_I m (i + 1)) x.toNatClampNeg y))) = am_ws base cy (am_setI m (i + 1) x.toNatClampNeg y) := by
    refine am_ws_upd rfl (fun c hc => am_cell_congr rfl rfl ?_ ?_ (fun _ => rfl)) ?_
    · first | exact fun _ => rfl | exact fun j => if_neg (fun q => hc q.1)
    · first | exact fun _ => rfl | exact fun j => if_neg (fun q => hc q.1)
    · rw [am_cell_a (m := am_setI m (i + 1) x.toNatClampNeg y) hk (by decide), am_ac_i (m := am_setI m (i + 1) x.toNatClampNeg y) hk (by decide) (by decide)]
      refine congrArg (fun f => (Sum.inl (cy 11, am_L m (i + 1), Sum.inl f) : va_E)) (funext fun j => ?_)
      show (if i + 1 = i + 1 ∧ j = x.toNatClampNeg then y else am_I m (i + 1) j) = (if j = x.toNatClampNeg then y else am_I m (i + 1) j)
      by_cases hj : j = x.toNatClampNeg
      · rw [if_pos hj, if_pos ⟨rfl, hj⟩]
      · rw [if_neg hj, if_neg (fun q => hj q.2)]
  refine va_iast (rest := st.map (am_sh base b)) C.1 (am_C.b C) C.2.2.1.2.2.2.2.1 hP am_ws_D C.2.2.2.2.2.2.2.1 i 0 he (am_tys_at cy (by decide)) hx hd (fun H1 locs1 hP1 _ hS1 => ?_)
  rw [hws] at hP1
  refine am_fix hP1 hS1 C.2.2.1.2.2.2.2.2.2.2.1 C.2.2.2.2.2.2.2.2 (fun hz => ?_)
  exact h p l e base b D cy R s mid args below meth c H1 locs1 cells slots la (am_ctx_put C hP1 hS1 hz rfl (fun _ => rfl)) hla
theorem am_zast {sc : Nat × (Nat → Int32)} {k pc q : Nat} {ls st : List Value} {m : am_Mem} {Q : am_Out → am_Mem → Prop} {a : Nat} {x : Int32} {y : Int32} (hd : am_at k pc .bastore 1 q) (hk : am_K m a = 13) (hx : vp_in x (am_L m a)) (h : am_W sc k q ls st (am_setI m a x.toNatClampNeg (vp_nar .boolean y)) Q) : am_W sc k pc ls (.int y :: .int x :: .ref a :: st) m Q := by
  obtain ⟨hd, rfl⟩ := hd
  intro p l e base b D cy R s mid args below meth c H locs cells slots la C hla
  obtain ⟨hP, hz0, hO⟩ := C.2.2.2.2.2.2.1
  obtain ⟨i, rfl, hi⟩ := am_K_ix hO hk (by decide)
  have he := am_ws_get (base := base) (cy := cy) hi
  rw [am_cell_a hk (by decide), am_ac_i hk (by decide) (by decide)] at he
  have hws : (am_ws base cy m).set i (base + i, .inl (cy 13, am_L m (i + 1), .inl (upd (am_I m (i + 1)) x.toNatClampNeg (vp_nar .boolean y)))) = am_ws base cy (am_setI m (i + 1) x.toNatClampNeg (vp_nar .boolean y)) := by
    refine am_ws_upd rfl (fun c hc => am_cell_congr rfl rfl ?_ ?_ (fun _ => rfl)) ?_
    · first | exact fun _ => rfl | exact fun j => if_neg (fun q => hc q.1)
    · first | exact fun _ => rfl | exact fun j => if_neg (fun q => hc q.1)
    · rw [am_cell_a (m := am_setI m (i + 1) x.toNatClampNeg (vp_nar .boolean y)) hk (by decide), am_ac_i (m := am_setI m (i + 1) x.toNatClampNeg (vp_nar .boolean y)) hk (by decide) (by decide)]
      refine congrArg (fun f => (Sum.inl (cy 13, am_L m (i + 1), Sum.inl f) : va_E)) (funext fun j => ?_)
      show (if i + 1 = i + 1 ∧ j = x.toNatClampNeg then (vp_nar .boolean y) else am_I m (i + 1) j) = (if j = x.toNatClampNeg then (vp_nar .boolean y) else am_I m (i + 1) j)
      by_cases hj : j = x.toNatClampNeg
      · rw [if_pos hj, if_pos ⟨rfl, hj⟩]
      · rw [if_neg hj, if_neg (fun q => hj q.2)]
  refine va_zast (rest := st.map (am_sh base b)) C.1 (am_C.b C) C.2.2.1.2.2.2.2.1 hP am_ws_D C.2.2.2.2.2.2.2.1 i 2 he (am_tys_at cy (by decide)) hx hd (fun H1 locs1 hP1 _ hS1 => ?_)
  rw [hws] at hP1
  refine am_fix hP1 hS1 C.2.2.1.2.2.2.2.2.2.2.1 C.2.2.2.2.2.2.2.2 (fun hz => ?_)
  exact h p l e base b D cy R s mid args below meth c H1 locs1 cells slots la (am_ctx_put C hP1 hS1 hz rfl (fun _ => rfl)) hla
theorem am_last {sc : Nat × (Nat → Int32)} {k pc q : Nat} {ls st : List Value} {m : am_Mem} {Q : am_Out → am_Mem → Prop} {a : Nat} {x : Int32} {y : Int64} (hd : am_at k pc .lastore 1 q) (hk : am_K m a = 12) (hx : vp_in x (am_L m a)) (h : am_W sc k q ls st (am_setJ m a x.toNatClampNeg y) Q) : am_W sc k pc ls (.long y :: .int x :: .ref a :: st) m Q := by
  obtain ⟨hd, rfl⟩ := hd
  intro p l e base b D cy R s mid args below meth c H locs cells slots la C hla
  obtain ⟨hP, hz0, hO⟩ := C.2.2.2.2.2.2.1
  obtain ⟨i, rfl, hi⟩ := am_K_ix hO hk (by decide)
  have he := am_ws_get (base := base) (cy := cy) hi
  rw [am_cell_a hk (by decide), am_ac_j hk] at he
  have hws : (am_ws base cy m).set i (base + i, .inl (cy 12, am_L m (i + 1), .inr (.inl (vp_updL (am_J m (i + 1)) x.toNatClampNeg y)))) = am_ws base cy (am_setJ m (i + 1) x.toNatClampNeg y) := by
    refine am_ws_upd rfl (fun c hc => am_cell_congr rfl rfl ?_ ?_ (fun _ => rfl)) ?_
    · first | exact fun _ => rfl | exact fun j => if_neg (fun q => hc q.1)
    · first | exact fun _ => rfl | exact fun j => if_neg (fun q => hc q.1)
    · rw [am_cell_a (m := am_setJ m (i + 1) x.toNatClampNeg y) hk (by decide), am_ac_j (m := am_setJ m (i + 1) x.toNatClampNeg y) hk]
      refine congrArg (fun f => (Sum.inl (cy 12, am_L m (i + 1), Sum.inr (Sum.inl f)) : va_E)) (funext fun j => ?_)
      show (if i + 1 = i + 1 ∧ j = x.toNatClampNeg then y else am_J m (i + 1) j) = (if j = x.toNatClampNeg then y else am_J m (i + 1) j)
      by_cases hj : j = x.toNatClampNeg
      · rw [if_pos hj, if_pos ⟨rfl, hj⟩]
      · rw [if_neg hj, if_neg (fun q => hj q.2)]
  refine va_last (rest := st.map (am_sh base b)) C.1 (am_C.b C) C.2.2.1.2.2.2.2.1 hP am_ws_D C.2.2.2.2.2.2.2.1 i 1 he (am_tys_at cy (by decide)) hx hd (fun H1 locs1 hP1 _ hS1 => ?_)
  rw [hws] at hP1
  refine am_fix hP1 hS1 C.2.2.1.2.2.2.2.2.2.2.1 C.2.2.2.2.2.2.2.2 (fun hz => ?_)
  exact h p l e base b D cy R s mid args below meth c H1 locs1 cells slots la (am_ctx_put C hP1 hS1 hz rfl (fun _ => rfl)) hla
theorem am_aast {sc : Nat × (Nat → Int32)} {k pc q : Nat} {ls st : List Value} {m : am_Mem} {Q : am_Out → am_Mem → Prop} {a ci v : Nat} {x : Int32} (hd : am_at k pc .aastore 1 q) (hk : am_K m a = 14 + ci) (hci : ci < 5) (hv : v = 0 ∨ am_K m v = ci) (hx : vp_in x (am_L m a)) (h : am_W sc k q ls st (am_setR m a x.toNatClampNeg v) Q) : am_W sc k pc ls (.ref v :: .int x :: .ref a :: st) m Q := by
  obtain ⟨hd, rfl⟩ := hd
  intro p l e base b D cy R s mid args below meth c H locs cells slots la C hla
  obtain ⟨hP, hz0, hO⟩ := C.2.2.2.2.2.2.1
  obtain ⟨i, rfl, hi⟩ := am_K_ix hO hk (by omega)
  have he := am_ws_get (base := base) (cy := cy) hi
  rw [am_cell_a hk (by omega), am_ac_r hk (by omega)] at he
  have hCn : am_an (3 + ci) = .object (am_r ci).1 ∧ am_cl[ci]? = some (am_r ci) := by
    match ci, hci with
    | 0, _ => exact ⟨rfl, rfl⟩
    | 1, _ => exact ⟨rfl, rfl⟩
    | 2, _ => exact ⟨rfl, rfl⟩
    | 3, _ => exact ⟨rfl, rfl⟩
    | 4, _ => exact ⟨rfl, rfl⟩
  have ht := am_tys_at cy (j := 3 + ci) (by omega)
  rw [hCn.1, show 11 + (3 + ci) = 14 + ci by omega] at ht
  have hws : (am_ws base cy m).set i (base + i, .inl (cy (14 + ci), am_L m (i + 1), .inr (.inr (.inr (.inr (va_up (fun j => am_ro base (am_R m (i + 1) j)) x.toNatClampNeg (am_ro base v))))))) = am_ws base cy (am_setR m (i + 1) x.toNatClampNeg v) := by
    refine am_ws_upd rfl (fun c hc => am_cell_congr rfl rfl (fun _ => rfl) (fun _ => rfl) (fun j => if_neg (fun q => hc q.1))) ?_
    rw [am_cell_a (m := am_setR m (i + 1) x.toNatClampNeg v) hk (by omega), am_ac_r (m := am_setR m (i + 1) x.toNatClampNeg v) hk (by omega)]
    refine congrArg (fun f => (Sum.inl (cy (14 + ci), am_L m (i + 1), Sum.inr (Sum.inr (Sum.inr (Sum.inr f)))) : va_E)) (funext fun j => ?_)
    show am_ro base (if i + 1 = i + 1 ∧ j = x.toNatClampNeg then v else am_R m (i + 1) j) = (if j = x.toNatClampNeg then am_ro base v else am_ro base (am_R m (i + 1) j))
    by_cases hj : j = x.toNatClampNeg
    · rw [if_pos hj, if_pos ⟨rfl, hj⟩]
    · rw [if_neg hj, if_neg (fun q => hj q.2)]
  have kk : ∀ (H1 : Heap) (locs1 : List Loc), va_P D am_cl ((am_ws base cy m).set i (base + i, .inl (cy (14 + ci), am_L m (i + 1), .inr (.inr (.inr (.inr (va_up (fun j => am_ro base (am_R m (i + 1) j)) x.toNatClampNeg (am_ro base v)))))))) H1 → va_D (fun q => base ≤ q) ((am_ws base cy m).set i (base + i, .inl (cy (14 + ci), am_L m (i + 1), .inr (.inr (.inr (.inr (va_up (fun j => am_ro base (am_R m (i + 1) j)) x.toNatClampNeg (am_ro base v)))))))) → va_S (fun q => base ≤ q) s.heap H1 locs1 →
      W p l e R s mid args below meth c H1 locs1 cells slots (am_End base b D cy R s below Q) (F0 mid (pc + 1) la (st.map (am_sh base b))) := by
    intro H1 locs1 hP1 _ hS1
    rw [hws] at hP1
    refine am_fix hP1 hS1 C.2.2.1.2.2.2.2.2.2.2.1 C.2.2.2.2.2.2.2.2 (fun hz => ?_)
    exact h p l e base b D cy R s mid args below meth c H1 locs1 cells slots la (am_ctx_put C hP1 hS1 hz rfl (fun _ => rfl)) hla
  rcases hv with rfl | hv
  · exact va_astqN (rest := st.map (am_sh base b)) C.1 (am_C.b C) C.2.2.1.2.2.2.2.1 hP am_ws_D C.2.2.2.2.2.2.2.1 i (3 + ci) he ht hx hd kk
  · obtain ⟨iv, rfl, hiv⟩ := am_K_ix hO hv (by omega)
    have hev := am_ws_get (base := base) (cy := cy) hiv
    rw [am_cell_o hv (by omega)] at hev
    exact va_astq (rest := st.map (am_sh base b)) C.1 (am_C.b C) C.2.2.1.2.2.2.2.1 hP am_ws_D C.2.2.2.2.2.2.2.1 i (3 + ci) iv ci he ht hev hCn.2 hx hd kk
theorem am_fixN {p : Program} {l : Launch} {e : Env} {R : Room} {s : State} {mid : MethodId} {args : Array Value} {below : List Frame} {meth : Method} {c : Code} {H : Heap} {locs : List Loc} {cells slots : Nat} {Q : State → Prop} {g : JFrame} {base : Nat} {D : va_G} {cy : Nat → ClassId} {m : am_Mem} {a : Nat} {E : va_E}
    (hP : va_P D am_cl (am_ws base cy m ++ [(a, E)]) H) (hD : va_D (fun q => base ≤ q) (am_ws base cy m ++ [(a, E)])) (hex : s.heap.size + cells = base + am_n m)
    (h : a = base + am_n m → H.size = base + am_n m + 1 → W p l e R s mid args below meth c H locs (cells + 1) slots Q g) : W p l e R s mid args below meth c H locs (cells + 1) slots Q g := by
  intro T hT X
  have h1 := X.heapSize
  rw [hT] at h1
  have hl : (am_ws base cy m ++ [(a, E)])[am_n m]? = some (a, E) := by
    rw [List.getElem?_append_right (by rw [am_ws_len]; exact Nat.le_refl _), am_ws_len, Nat.sub_self]
    rfl
  have h2 : a < H.size := (hP _ _ hl).lt
  have h3 : base ≤ a := hD.2 _ _ hl
  have h4 : a = base + am_n m := by
    by_cases hq : a < base + am_n m
    · have hi : a - base < am_n m := by omega
      have e1 : (am_ws base cy m ++ [(a, E)])[a - base]? = some (base + (a - base), am_cell base cy m (a - base + 1)) := by
        rw [List.getElem?_append_left (by rw [am_ws_len]; exact hi), am_ws_get hi]
      have e2 := hD.1 (a - base) (am_n m) _ _ e1 hl (by show base + (a - base) = a; omega)
      omega
    · omega
  exact h h4 (by omega) T hT X
theorem am_ctx_new {sc : Nat × (Nat → Int32)} {k : Nat} {m m' : am_Mem} {p : Program} {l : Launch} {base b : Nat} {D : va_G} {cy : Nat → ClassId} {R : Room} {s : State} {mid : MethodId} {meth : Method} {c : Code} {H H1 : Heap} {locs locs1 : List Loc} {cells slots : Nat}
    (C : am_Ctx sc k m p l base b D cy R s mid meth c H locs cells slots) (hP : va_P D am_cl (am_ws base cy m') H1) (hS : va_S (fun q => base ≤ q) s.heap H1 locs1) (hz : H1.size = base + am_n m + 1) {sz : Nat} (h1 : m'.1 = (am_n m + 1, am_u m + sz)) (h2 : ∀ a, a ≠ am_n m + 1 → am_K m' a = am_K m a) (hc : am_n m + 1 ≤ am_CM) (hs : am_u m + sz ≤ am_SM) :
    am_Ctx sc k m' p l base b D cy R s mid meth c H1 locs1 (cells + 1) (slots + sz) := by
  have hn : am_n m' = am_n m + 1 := congrArg Prod.fst h1
  have hu : am_u m' = am_u m + sz := congrArg Prod.snd h1
  refine ⟨C.1, C.2.1, C.2.2.1, C.2.2.2.1, C.2.2.2.2.1, ?_, ⟨hP, by omega, fun a ha => ?_⟩, hS, ?_⟩
  · have h9 := C.2.2.2.2.2.1
    unfold am_Rm at h9 ⊢
    rw [hn, hu]
    omega
  · rw [hn] at ha
    rw [h2 a (by omega)]
    exact C.2.2.2.2.2.2.1.2.2 a (by omega)
  · have h9 := C.2.2.2.2.2.2.2.2
    omega
theorem am_new_cell {base : Nat} {cy : Nat → ClassId} {m : am_Mem} {kd len sz : Nat} {c : Nat} (h : c ≤ am_n m) : am_cell base cy (am_new m kd len sz) c = am_cell base cy m c := by
  have hne : ¬ c = m.1.1 + 1 := by
    have : c ≤ m.1.1 := h
    omega
  exact am_cell_congr (if_neg hne) (if_neg hne) (fun _ => if_neg hne) (fun _ => if_neg hne) (fun _ => if_neg hne)
theorem am_new_K {m : am_Mem} {kd len sz : Nat} : am_K (am_new m kd len sz) (am_n m + 1) = kd := if_pos rfl
theorem am_new_L {m : am_Mem} {kd len sz : Nat} : am_L (am_new m kd len sz) (am_n m + 1) = len := if_pos rfl
theorem am_new_Ko {m : am_Mem} {kd len sz a : Nat} (h : a ≠ am_n m + 1) : am_K (am_new m kd len sz) a = am_K m a := if_neg h
theorem am_rm {sc : Nat × (Nat → Int32)} {k : Nat} {m : am_Mem} {p : Program} {l : Launch} {base b : Nat} {D : va_G} {cy : Nat → ClassId} {R : Room} {s : State} {mid : MethodId} {meth : Method} {c : Code} {H : Heap} {locs : List Loc} {cells slots : Nat} (C : am_Ctx sc k m p l base b D cy R s mid meth c H locs cells slots) {sz : Nat} (hc : am_n m + 1 ≤ am_CM) (hs : am_u m + sz ≤ am_SM) : cells + 1 ≤ R.cells ∧ slots + sz ≤ R.slots := by
  have h9 := C.2.2.2.2.2.1
  unfold am_Rm at h9
  omega
def am_dv (kd : Nat) : Value := match kd with
  | 0 => .int 0
  | 1 => .long 0
  | _ => .null
theorem am_kt_dv {kd : Nat} {t : FieldType} (h : am_kt kd t = true) : defaultValue t = am_dv kd := by
  unfold am_kt at h
  split at h <;> first | rfl | cases h
theorem am_newo {sc : Nat × (Nat → Int32)} {k pc q : Nat} {ls st : List Value} {m : am_Mem} {Q : am_Out → am_Mem → Prop} {idx ci N : Nat} (hd : am_at k pc (.new idx) 3 q) (hci : ci < 8) (hN : (am_fk ci).length = N) (hw : Cond.classLink (am_y k).cls idx (am_r ci).1 ∈ lw_tbl) (hi : Cond.instantiable (am_r ci).1 N ∈ lw_tbl) (hin : Cond.initialized (am_r ci).1 ∈ lw_tbl) (hc : am_n m + 1 ≤ am_CM) (hs : am_u m + N ≤ am_SM)
    (h : am_W sc k q ls (.ref (am_n m + 1) :: st) (am_new m ci 0 N) Q) : am_W sc k pc ls st m Q := by
  obtain ⟨hd, rfl⟩ := hd
  subst hN
  intro p l e base b D cy R s mid args below meth c H locs cells slots la C hla
  obtain ⟨hP, hz0, hO⟩ := C.2.2.2.2.2.2.1
  have cp := am_cp hci
  have hrm := am_rm C hc hs
  have hi2 : Cond.instantiable (am_r ci).1 (am_r ci).2.2 ∈ lw_tbl := by rw [cp.2.1]; exact hi
  have hfs : ∀ j, j < (am_r ci).2.2 → defaultValue (am_ty ci j) = vp_V (am_fl base (am_new m ci 0 (am_fk ci).length) (am_n m + 1) (am_fk ci) 0) j := by
    intro j hj
    rw [cp.2.1] at hj
    have h9 := cp.2.2.2.2.2.2 j hj
    have hg : (am_fk ci)[j]? = some ((am_fk ci).getD j 3) := by
      rw [List.getD_eq_getElem?_getD, List.getElem?_eq_getElem hj]; rfl
    rw [am_kt_dv h9]
    generalize (am_fk ci).getD j 3 = kd at hg
    show _ = ((am_fl base (am_new m ci 0 (am_fk ci).length) (am_n m + 1) (am_fk ci) 0)).getD j .null
    rw [List.getD_eq_getElem?_getD, am_fl_get (am_fk ci) 0 j _ hg]
    show _ = am_fv base (am_new m ci 0 (am_fk ci).length) (am_n m + 1) kd (0 + j)
    unfold am_dv am_fv
    have z1 : am_I (am_new m ci 0 (am_fk ci).length) (am_n m + 1) (0 + j) = 0 := if_pos rfl
    have z2 : am_J (am_new m ci 0 (am_fk ci).length) (am_n m + 1) (0 + j) = 0 := if_pos rfl
    have z3 : am_R (am_new m ci 0 (am_fk ci).length) (am_n m + 1) (0 + j) = 0 := if_pos rfl
    rw [z1, z2, z3]
    match kd with
    | 0 => rfl
    | 1 => rfl
    | _ + 2 => rfl
  refine va_new (rest := st.map (am_sh base b)) (Ts := u_ws (am_r ci).1 (am_r ci).2.1 (am_r ci).2.2) C.1 (am_C.b C) (fun w hw => am_C.w C (cp.2.2.1 w hw) (cp.2.2.2.1 w hw)) (fun w h => h) (am_ty ci) cp.2.2.2.2.1 (am_C.own C) (am_C.w C hw rfl) (am_C.w C hi2 rfl) (am_C.w C hin rfl) C.2.2.1.2.2.2.2.1 hP am_ws_D C.2.2.2.2.2.2.2.1 (fun q hq => Nat.le_trans C.2.2.1.2.2.2.2.2.2.2.1 hq) cp.1 hfs hrm.1 (by rw [cp.2.1]; exact hrm.2) hd (fun a H1 hP1 hD1 hS1 => ?_)
  refine am_fixN hP1 hD1 C.2.2.2.2.2.2.2.2 (fun ha hz => ?_)
  subst ha
  rw [am_ws_new (m' := am_new m ci 0 (am_fk ci).length) rfl (fun c hc => am_new_cell hc) (am_cell_o am_new_K (by omega))] at hP1
  rw [cp.2.1]
  exact h p l e base b D cy R s mid args below meth c H1 locs (cells + 1) (slots + (am_fk ci).length) la (am_ctx_new C hP1 hS1 hz rfl (fun a ha => am_new_Ko ha) hc hs) hla
end
section
/-! new arrays, clone, arraycopy, Math, Object.<init> -/
theorem am_tyl (cy : Nat → ClassId) : (am_tys cy).length = 8 := by simp [am_tys]
theorem am_newI {m : am_Mem} {kd len sz : Nat} : am_I (am_new m kd len sz) (am_n m + 1) = fun _ => 0 := funext fun _ => if_pos rfl
theorem am_newJ {m : am_Mem} {kd len sz : Nat} : am_J (am_new m kd len sz) (am_n m + 1) = fun _ => 0 := funext fun _ => if_pos rfl
theorem am_newR {m : am_Mem} {kd len sz : Nat} (j : Nat) : am_R (am_new m kd len sz) (am_n m + 1) j = 0 := if_pos rfl
theorem am_newaI {sc : Nat × (Nat → Int32)} {k pc q : Nat} {ls st : List Value} {m : am_Mem} {Q : am_Out → am_Mem → Prop} {x : Int32} {N : Nat} (hd : am_at k pc (.newarray .int) 2 q) (hw : Cond.arrayClass .int ∈ lw_tbl) (hx : ¬ x < 0) (hN : x.toNatClampNeg = N) (hb : N ≤ 60000) (hc : am_n m + 1 ≤ am_CM) (hs : am_u m + N ≤ am_SM)
    (h : am_W sc k q ls (.ref (am_n m + 1) :: st) (am_new m 11 N N) Q) : am_W sc k pc ls (.int x :: st) m Q := by
  obtain ⟨hd, rfl⟩ := hd
  intro p l e base b D cy R s mid args below meth c H locs cells slots la C hla
  obtain ⟨hP, hz0, hO⟩ := C.2.2.2.2.2.2.1
  have hrm := am_rm C hc hs
  refine va_newa (rest := st.map (am_sh base b)) (atype := .int) (ty := .int) (a0 := (N, .inl (fun _ => 0))) C.1 (am_C.b C) (am_C.w C hw rfl) rfl C.2.2.1.2.2.2.2.1 hP am_ws_D C.2.2.2.2.2.2.2.1 (fun q hq => Nat.le_trans C.2.2.1.2.2.2.2.2.2.2.1 hq) (fun cA => rfl) hx hN (by show N * _ ≤ _; simp [componentBytes]; omega) hrm.1 hrm.2 hd (fun a cA H1 hK1 hP1 hD1 hS1 => ?_)
  have hcA : cA = cy 11 := by
    have h1 := (hK1.2 8 (cA, .int) (by rw [List.getElem?_append_right (by rw [am_tyl]; exact Nat.le_refl _), am_tyl]; rfl)).2
    have h2 := (C.2.2.1.2.2.2.2.1.2 0 (cy 11, .int) (am_tys_at cy (by decide))).2
    exact Option.some.inj ((show s.vm.findClass _ = some cA from h1).symm.trans h2)
  subst hcA
  refine am_fixN hP1 hD1 C.2.2.2.2.2.2.2.2 (fun ha hz => ?_)
  subst ha
  rw [am_ws_new (m' := am_new m 11 N N) rfl (fun c hc => am_new_cell hc) (by rw [am_cell_a am_new_K (by decide), am_ac_i am_new_K (by decide) (by decide), am_newI, am_new_L])] at hP1
  exact h p l e base b D cy R s mid args below meth c H1 locs (cells + 1) (slots + N) la (am_ctx_new C hP1 hS1 hz rfl (fun a ha => am_new_Ko ha) hc hs) hla
theorem am_newaJ {sc : Nat × (Nat → Int32)} {k pc q : Nat} {ls st : List Value} {m : am_Mem} {Q : am_Out → am_Mem → Prop} {x : Int32} {N : Nat} (hd : am_at k pc (.newarray .long) 2 q) (hw : Cond.arrayClass .long ∈ lw_tbl) (hx : ¬ x < 0) (hN : x.toNatClampNeg = N) (hb : N ≤ 60000) (hc : am_n m + 1 ≤ am_CM) (hs : am_u m + N ≤ am_SM)
    (h : am_W sc k q ls (.ref (am_n m + 1) :: st) (am_new m 12 N N) Q) : am_W sc k pc ls (.int x :: st) m Q := by
  obtain ⟨hd, rfl⟩ := hd
  intro p l e base b D cy R s mid args below meth c H locs cells slots la C hla
  obtain ⟨hP, hz0, hO⟩ := C.2.2.2.2.2.2.1
  have hrm := am_rm C hc hs
  refine va_newa (rest := st.map (am_sh base b)) (atype := .long) (ty := .long) (a0 := (N, .inr (.inl (fun _ => 0)))) C.1 (am_C.b C) (am_C.w C hw rfl) rfl C.2.2.1.2.2.2.2.1 hP am_ws_D C.2.2.2.2.2.2.2.1 (fun q hq => Nat.le_trans C.2.2.1.2.2.2.2.2.2.2.1 hq) (fun cA => rfl) hx hN (by show N * _ ≤ _; simp [componentBytes]; omega) hrm.1 hrm.2 hd (fun a cA H1 hK1 hP1 hD1 hS1 => ?_)
  have hcA : cA = cy 12 := by
    have h1 := (hK1.2 8 (cA, .long) (by rw [List.getElem?_append_right (by rw [am_tyl]; exact Nat.le_refl _), am_tyl]; rfl)).2
    have h2 := (C.2.2.1.2.2.2.2.1.2 1 (cy 12, .long) (am_tys_at cy (by decide))).2
    exact Option.some.inj ((show s.vm.findClass _ = some cA from h1).symm.trans h2)
  subst hcA
  refine am_fixN hP1 hD1 C.2.2.2.2.2.2.2.2 (fun ha hz => ?_)
  subst ha
  rw [am_ws_new (m' := am_new m 12 N N) rfl (fun c hc => am_new_cell hc) (by rw [am_cell_a am_new_K (by decide), am_ac_j am_new_K, am_newJ, am_new_L])] at hP1
  exact h p l e base b D cy R s mid args below meth c H1 locs (cells + 1) (slots + N) la (am_ctx_new C hP1 hS1 hz rfl (fun a ha => am_new_Ko ha) hc hs) hla
theorem am_newaZ {sc : Nat × (Nat → Int32)} {k pc q : Nat} {ls st : List Value} {m : am_Mem} {Q : am_Out → am_Mem → Prop} {x : Int32} {N : Nat} (hd : am_at k pc (.newarray .boolean) 2 q) (hw : Cond.arrayClass .boolean ∈ lw_tbl) (hx : ¬ x < 0) (hN : x.toNatClampNeg = N) (hb : N ≤ 60000) (hc : am_n m + 1 ≤ am_CM) (hs : am_u m + N ≤ am_SM)
    (h : am_W sc k q ls (.ref (am_n m + 1) :: st) (am_new m 13 N N) Q) : am_W sc k pc ls (.int x :: st) m Q := by
  obtain ⟨hd, rfl⟩ := hd
  intro p l e base b D cy R s mid args below meth c H locs cells slots la C hla
  obtain ⟨hP, hz0, hO⟩ := C.2.2.2.2.2.2.1
  have hrm := am_rm C hc hs
  refine va_newa (rest := st.map (am_sh base b)) (atype := .boolean) (ty := .boolean) (a0 := (N, .inl (fun _ => 0))) C.1 (am_C.b C) (am_C.w C hw rfl) rfl C.2.2.1.2.2.2.2.1 hP am_ws_D C.2.2.2.2.2.2.2.1 (fun q hq => Nat.le_trans C.2.2.1.2.2.2.2.2.2.2.1 hq) (fun cA => rfl) hx hN (by show N * _ ≤ _; simp [componentBytes]; omega) hrm.1 hrm.2 hd (fun a cA H1 hK1 hP1 hD1 hS1 => ?_)
  have hcA : cA = cy 13 := by
    have h1 := (hK1.2 8 (cA, .boolean) (by rw [List.getElem?_append_right (by rw [am_tyl]; exact Nat.le_refl _), am_tyl]; rfl)).2
    have h2 := (C.2.2.1.2.2.2.2.1.2 2 (cy 13, .boolean) (am_tys_at cy (by decide))).2
    exact Option.some.inj ((show s.vm.findClass _ = some cA from h1).symm.trans h2)
  subst hcA
  refine am_fixN hP1 hD1 C.2.2.2.2.2.2.2.2 (fun ha hz => ?_)
  subst ha
  rw [am_ws_new (m' := am_new m 13 N N) rfl (fun c hc => am_new_cell hc) (by rw [am_cell_a am_new_K (by decide), am_ac_i am_new_K (by decide) (by decide), am_newI, am_new_L])] at hP1
  exact h p l e base b D cy R s mid args below meth c H1 locs (cells + 1) (slots + N) la (am_ctx_new C hP1 hS1 hz rfl (fun a ha => am_new_Ko ha) hc hs) hla
theorem am_newq {sc : Nat × (Nat → Int32)} {k pc q : Nat} {ls st : List Value} {m : am_Mem} {Q : am_Out → am_Mem → Prop} {x : Int32} {N idx ci : Nat} (hd : am_at k pc (.anewarray idx) 3 q) (hci : ci < 5) (hw : Cond.classLink (am_y k).cls idx (am_r ci).1 ∈ lw_tbl) (hao : Cond.arrayOver (.object (am_r ci).1) ∈ lw_tbl) (hx : ¬ x < 0) (hN : x.toNatClampNeg = N) (hb : N ≤ 60000) (hc : am_n m + 1 ≤ am_CM) (hs : am_u m + N ≤ am_SM)
    (h : am_W sc k q ls (.ref (am_n m + 1) :: st) (am_new m (14 + ci) N N) Q) : am_W sc k pc ls (.int x :: st) m Q := by
  obtain ⟨hd, rfl⟩ := hd
  intro p l e base b D cy R s mid args below meth c H locs cells slots la C hla
  obtain ⟨hP, hz0, hO⟩ := C.2.2.2.2.2.2.1
  have hrm := am_rm C hc hs
  have hCn : am_an (3 + ci) = .object (am_r ci).1 := by
    match ci, hci with
    | 0, _ => rfl
    | 1, _ => rfl
    | 2, _ => rfl
    | 3, _ => rfl
    | 4, _ => rfl
  refine va_newq (rest := st.map (am_sh base b)) (N' := N) C.1 (am_C.b C) (am_C.own C) (am_C.w C hw rfl) (C.2.2.1.2.1 _ hao rfl) C.2.2.1.2.2.2.2.1 hP am_ws_D C.2.2.2.2.2.2.2.1 (fun q hq => Nat.le_trans C.2.2.1.2.2.2.2.2.2.2.1 hq) hx hN (by omega) hrm.1 hrm.2 hd (fun a cA H1 hK1 hP1 hD1 hS1 => ?_)
  have hcA : cA = cy (14 + ci) := by
    obtain ⟨-, -, -, -, -, h1⟩ := (hK1.2 8 (cA, .object (am_r ci).1) (by rw [List.getElem?_append_right (by rw [am_tyl]; exact Nat.le_refl _), am_tyl]; rfl)).2
    have ht := am_tys_at cy (j := 3 + ci) (by omega)
    rw [hCn, show 11 + (3 + ci) = 14 + ci by omega] at ht
    obtain ⟨-, -, -, -, -, h2⟩ := (C.2.2.1.2.2.2.2.1.2 (3 + ci) _ ht).2
    exact Option.some.inj (h1.symm.trans h2)
  subst hcA
  refine am_fixN hP1 hD1 C.2.2.2.2.2.2.2.2 (fun ha hz => ?_)
  subst ha
  rw [am_ws_new (m' := am_new m (14 + ci) N N) rfl (fun c hc => am_new_cell hc) (by
    rw [am_cell_a am_new_K (by omega), am_ac_r am_new_K (by omega), am_new_L]
    simp only [am_newR]
    rfl)] at hP1
  exact h p l e base b D cy R s mid args below meth c H1 locs (cells + 1) (slots + N) la (am_ctx_new C hP1 hS1 hz rfl (fun a ha => am_new_Ko ha) hc hs) hla
def am_cln : MethodName := ⟨"[I", "clone", "()Ljava/lang/Object;"⟩
def am_clo : MethodName := ⟨"java/lang/Object", "clone", "()Ljava/lang/Object;"⟩
theorem am_clone {sc : Nat × (Nat → Int32)} {k pc q : Nat} {ls st : List Value} {m : am_Mem} {Q : am_Out → am_Mem → Prop} {idx a : Nat} (hd : am_at k pc (.invokevirtual idx) 3 q) (hw : Cond.methodLink (am_y k).cls idx am_cln ∈ lw_tbl) (w1 : Cond.sameMethod "[I" "java/lang/Object" "clone" "()Ljava/lang/Object;" ∈ lw_tbl) (w2 : Cond.native am_clo ∈ lw_tbl) (w3 : Cond.instanceMethod am_clo ∈ lw_tbl) (w4 : Cond.selects "[I" am_cln am_clo ∈ lw_tbl) (w5 : Cond.castable "[I" "java/lang/Cloneable" ∈ lw_tbl)
    (hk : am_K m a = 11) (hf : 1 ≤ am_fr k) (hlo : am_cs st + 14 ≤ am_lo k) (hc : am_n m + 1 ≤ am_CM) (hs : am_u m + am_L m a ≤ am_SM)
    (h : am_W sc k q ls (.ref (am_n m + 1) :: st) (am_rowI (am_new m 11 (am_L m a) (am_L m a)) (am_n m + 1) (am_I m a)) Q) : am_W sc k pc ls (.ref a :: st) m Q := by
  obtain ⟨hd, rfl⟩ := hd
  intro p l e base b D cy R s mid args below meth c H locs cells slots la C hla
  obtain ⟨hP, hz0, hO⟩ := C.2.2.2.2.2.2.1
  obtain ⟨i, rfl, hi⟩ := am_K_ix hO hk (by decide)
  have hrm := am_rm C hc hs
  have he := am_ws_get (base := base) (cy := cy) hi
  rw [am_cell_a hk (by decide), am_ac_i hk (by decide) (by decide)] at he
  have hla1 := hla.1
  have hnm : s.vm.findClass "[I" = some (cy 11) := (C.2.2.1.2.2.2.2.1.2 0 (cy 11, .int) (am_tys_at cy (by decide))).2
  refine va_clone (rest := st.map (am_sh base b)) C.1 (am_C.b C) (by rw [hla1]; exact C.2.2.2.1.2.1) (am_C.own C) (am_C.w C hw rfl) (am_C.w C w1 rfl) (am_C.w C w2 rfl) (am_C.w C w3 rfl) (am_C.w C w4 rfl) (C.2.2.1.2.1 _ w5 rfl) C.2.2.1.2.2.2.2.1 hP am_ws_D C.2.2.2.2.2.2.2.1 (fun q hq => Nat.le_trans C.2.2.1.2.2.2.2.2.2.2.1 hq) i 0 he (am_tys_at cy (by decide)) hnm
    (fun j v hv => ?_) (Nat.le_trans hf C.2.2.2.2.1.1) (by rw [am_cs_sh]; exact Nat.le_trans hlo C.2.2.2.2.1.2) hrm.1 hrm.2 hd (fun a H1 hK1 hP1 hD1 hS1 => ?_)
  · have hj : j < (arrV (cy 11) (am_L m (i + 1)) (fun j => .int (am_I m (i + 1) j))).slots.size := (Array.getElem?_eq_some_iff.mp hv).1
    rw [arrV_size] at hj
    have h9 : (arrV (cy 11) (am_L m (i + 1)) (fun j => .int (am_I m (i + 1) j))).slots[j]? = some v := hv
    rw [arrV_read _ _ hj] at h9
    cases h9
    rfl
  refine am_fixN hP1 hD1 C.2.2.2.2.2.2.2.2 (fun ha hz => ?_)
  subst ha
  have e9 : am_K (am_rowI (am_new m 11 (am_L m (i + 1)) (am_L m (i + 1))) (am_n m + 1) (am_I m (i + 1))) (am_n m + 1) = 11 := am_new_K (len := am_L m (i + 1)) (sz := am_L m (i + 1))
  rw [am_ws_new (m' := am_rowI (am_new m 11 (am_L m (i + 1)) (am_L m (i + 1))) (am_n m + 1) (am_I m (i + 1))) rfl (fun c hc => by
      have hne : ¬ c = am_n m + 1 := by omega
      refine (am_cell_congr (m := am_new m 11 (am_L m (i + 1)) (am_L m (i + 1))) (m' := am_rowI (am_new m 11 (am_L m (i + 1)) (am_L m (i + 1))) (am_n m + 1) (am_I m (i + 1))) rfl rfl (fun _ => if_neg hne) (fun _ => rfl) (fun _ => rfl)).trans (am_new_cell (kd := 11) (len := am_L m (i + 1)) (sz := am_L m (i + 1)) hc)) (by
      rw [am_cell_a e9 (by decide), am_ac_i e9 (by decide) (by decide)]
      have e1 : am_L (am_rowI (am_new m 11 (am_L m (i + 1)) (am_L m (i + 1))) (am_n m + 1) (am_I m (i + 1))) (am_n m + 1) = am_L m (i + 1) := am_new_L (kd := 11) (sz := am_L m (i + 1))
      have e2 : am_I (am_rowI (am_new m 11 (am_L m (i + 1)) (am_L m (i + 1))) (am_n m + 1) (am_I m (i + 1))) (am_n m + 1) = am_I m (i + 1) := funext fun _ => if_pos rfl
      rw [e1, e2])] at hP1
  exact h p l e base b D cy R s mid args below meth c H1 locs (cells + 1) (slots + am_L m (i + 1)) la (am_ctx_new C hP1 hS1 hz rfl (fun a ha => am_new_Ko (kd := 11) (len := am_L m (i + 1)) (sz := am_L m (i + 1)) ha) hc hs) hla
theorem am_castI {sc : Nat × (Nat → Int32)} {k pc q : Nat} {ls st : List Value} {m : am_Mem} {Q : am_Out → am_Mem → Prop} {idx a : Nat} (hd : am_at k pc (.checkcast idx) 3 q) (hw : Cond.classLink (am_y k).cls idx "[I" ∈ lw_tbl) (hk : am_K m a = 11) (h : am_W sc k q ls (.ref a :: st) m Q) : am_W sc k pc ls (.ref a :: st) m Q := by
  obtain ⟨hd, rfl⟩ := hd
  intro p l e base b D cy R s mid args below meth c H locs cells slots la C hla
  obtain ⟨hP, hz0, hO⟩ := C.2.2.2.2.2.2.1
  obtain ⟨i, rfl, hi⟩ := am_K_ix hO hk (by decide)
  have he := am_ws_get (base := base) (cy := cy) hi
  rw [am_cell_a hk (by decide)] at he
  have hnm : s.vm.findClass "[I" = some (cy 11) := (C.2.2.1.2.2.2.2.1.2 0 (cy 11, .int) (am_tys_at cy (by decide))).2
  exact va_castA (rest := st.map (am_sh base b)) C.1 (am_C.b C) (am_C.own C) (am_C.w C hw rfl) hP i he hnm hd (h p l e base b D cy R s mid args below meth c H locs cells slots la C hla)
theorem am_mmax {sc : Nat × (Nat → Int32)} {k pc q : Nat} {ls st : List Value} {m : am_Mem} {Q : am_Out → am_Mem → Prop} {idx : Nat} {x y : Int32} (hd : am_at k pc (.invokestatic idx) 3 q) (hw : Cond.methodLink (am_y k).cls idx Lib.Math.max.name ∈ lw_tbl) (w1 : Cond.static Lib.Math.max.name ∈ lw_tbl) (w2 : Cond.initialized "java/lang/Math" ∈ lw_tbl) (w3 : Cond.code Lib.Math.max.name Lib.Math.max.code 2 (some .int) ∈ lw_tbl) (hf : 1 ≤ am_fr k) (hlo : am_cs st + 13 ≤ am_lo k)
    (h : am_W sc k q ls (.int (if x < y then y else x) :: st) m Q) : am_W sc k pc ls (.int y :: .int x :: st) m Q := by
  obtain ⟨hd, rfl⟩ := hd
  intro p l e base b D cy R s mid args below meth c H locs cells slots la C hla
  have h9 := C.2.2.2.2.2.1
  unfold am_Rm at h9
  have hla1 := hla.1
  exact va_mmax (rest := st.map (am_sh base b)) C.1 (am_C.b C) (by rw [hla1]; exact C.2.2.2.1.2.1) (am_C.own C) (am_C.w C hw rfl) (am_C.w C w1 rfl) (am_C.w C w2 rfl) (am_C.w C w3 rfl) (Nat.le_trans hf C.2.2.2.2.1.1) (by rw [am_cs_sh]; exact Nat.le_trans hlo C.2.2.2.2.1.2) (by omega) (by omega) hd (h p l e base b D cy R s mid args below meth c H locs cells slots la C hla)
theorem am_mmin {sc : Nat × (Nat → Int32)} {k pc q : Nat} {ls st : List Value} {m : am_Mem} {Q : am_Out → am_Mem → Prop} {idx : Nat} {x y : Int32} (hd : am_at k pc (.invokestatic idx) 3 q) (hw : Cond.methodLink (am_y k).cls idx Lib.Math.min.name ∈ lw_tbl) (w1 : Cond.static Lib.Math.min.name ∈ lw_tbl) (w2 : Cond.initialized "java/lang/Math" ∈ lw_tbl) (w3 : Cond.code Lib.Math.min.name Lib.Math.min.code 2 (some .int) ∈ lw_tbl) (hf : 1 ≤ am_fr k) (hlo : am_cs st + 13 ≤ am_lo k)
    (h : am_W sc k q ls (.int (if y < x then y else x) :: st) m Q) : am_W sc k pc ls (.int y :: .int x :: st) m Q := by
  obtain ⟨hd, rfl⟩ := hd
  intro p l e base b D cy R s mid args below meth c H locs cells slots la C hla
  have h9 := C.2.2.2.2.2.1
  unfold am_Rm at h9
  have hla1 := hla.1
  exact va_mmin (rest := st.map (am_sh base b)) C.1 (am_C.b C) (by rw [hla1]; exact C.2.2.2.1.2.1) (am_C.own C) (am_C.w C hw rfl) (am_C.w C w1 rfl) (am_C.w C w2 rfl) (am_C.w C w3 rfl) (Nat.le_trans hf C.2.2.2.2.1.1) (by rw [am_cs_sh]; exact Nat.le_trans hlo C.2.2.2.2.1.2) (by omega) (by omega) hd (h p l e base b D cy R s mid args below meth c H locs cells slots la C hla)
theorem am_oinit {sc : Nat × (Nat → Int32)} {k pc q : Nat} {ls st : List Value} {m : am_Mem} {Q : am_Out → am_Mem → Prop} {idx a : Nat} (hd : am_at k pc (.invokespecial idx) 3 q) (hw : Cond.methodLink (am_y k).cls idx objectInit ∈ lw_tbl) (w1 : Cond.instanceMethod objectInit ∈ lw_tbl) (w2 : Cond.code objectInit ⟨#[0xb1]⟩ 1 none ∈ lw_tbl) (hf : 1 ≤ am_fr k) (hlo : am_cs st + 12 ≤ am_lo k) (ha : ¬ a = 0)
    (h : am_W sc k q ls st m Q) : am_W sc k pc ls (.ref a :: st) m Q := by
  obtain ⟨hd, rfl⟩ := hd
  intro p l e base b D cy R s mid args below meth c H locs cells slots la C hla
  obtain ⟨i, rfl⟩ : ∃ i, a = i + 1 := ⟨a - 1, by omega⟩
  have hla1 := hla.1
  exact W.objInit (rest := st.map (am_sh base b)) C.1 (am_C.b C) (am_C.own C) (am_C.w C hw rfl) (am_C.w C w1 rfl) (am_C.w C w2 rfl) rfl (by show la.size = _; rw [hla1]; exact C.2.2.2.1.2.1.symm) rfl hd (Nat.le_trans hf C.2.2.2.2.1.1) (by show 2 * 0 + _ + 12 ≤ _; rw [am_cs_sh]; have := C.2.2.2.2.1.2; omega) (h p l e base b D cy R s mid args below meth c H locs cells slots la C hla)
theorem am_copyI {sc : Nat × (Nat → Int32)} {k pc q : Nat} {ls st : List Value} {m : am_Mem} {Q : am_Out → am_Mem → Prop} {idx a0 a1 : Nat} {x y z : Int32} (hd : am_at k pc (.invokestatic idx) 3 q) (hw : Cond.methodLink (am_y k).cls idx arraycopyName ∈ lw_tbl) (w1 : Cond.native arraycopyName ∈ lw_tbl) (w2 : Cond.static arraycopyName ∈ lw_tbl) (w3 : Cond.initialized "java/lang/System" ∈ lw_tbl) (hk0 : am_K m a0 = 11) (hk1 : am_K m a1 = 11)
    (h1 : ¬ x < 0) (h2 : ¬ y < 0) (h3 : ¬ z < 0) (h4 : x.toNatClampNeg + z.toNatClampNeg ≤ am_L m a0) (h5 : y.toNatClampNeg + z.toNatClampNeg ≤ am_L m a1) (hf : 1 ≤ am_fr k) (hlo : am_cs st + 18 ≤ am_lo k)
    (h : am_W sc k q ls st (am_rowI m a1 (va_cpy (am_I m a0) (am_I m a1) x.toNatClampNeg y.toNatClampNeg z.toNatClampNeg)) Q) : am_W sc k pc ls (.int z :: .int y :: .ref a1 :: .int x :: .ref a0 :: st) m Q := by
  obtain ⟨hd, rfl⟩ := hd
  intro p l e base b D cy R s mid args below meth c H locs cells slots la C hla
  obtain ⟨hP, hz0, hO⟩ := C.2.2.2.2.2.2.1
  obtain ⟨i0, rfl, hi0⟩ := am_K_ix hO hk0 (by decide)
  obtain ⟨i1, rfl, hi1⟩ := am_K_ix hO hk1 (by decide)
  have he0 := am_ws_get (base := base) (cy := cy) hi0
  rw [am_cell_a hk0 (by decide), am_ac_i hk0 (by decide) (by decide)] at he0
  have he1 := am_ws_get (base := base) (cy := cy) hi1
  rw [am_cell_a hk1 (by decide), am_ac_i hk1 (by decide) (by decide)] at he1
  have hla1 := hla.1
  have hws : (am_ws base cy m).set i1 (base + i1, .inl (cy 11, am_L m (i1 + 1), Sum.inl (va_cpy (am_I m (i0 + 1)) (am_I m (i1 + 1)) x.toNatClampNeg y.toNatClampNeg z.toNatClampNeg))) = am_ws base cy (am_rowI m (i1 + 1) (va_cpy (am_I m (i0 + 1)) (am_I m (i1 + 1)) x.toNatClampNeg y.toNatClampNeg z.toNatClampNeg)) := by
    refine am_ws_upd rfl (fun c hc => am_cell_congr rfl rfl ?_ ?_ (fun _ => rfl)) ?_
    · first | exact fun _ => rfl | exact fun j => if_neg hc
    · first | exact fun _ => rfl | exact fun j => if_neg hc
    · have e9 : am_K (am_rowI m (i1 + 1) (va_cpy (am_I m (i0 + 1)) (am_I m (i1 + 1)) x.toNatClampNeg y.toNatClampNeg z.toNatClampNeg)) (i1 + 1) = 11 := hk1
      rw [am_cell_a e9 (by decide), am_ac_i e9 (by decide) (by decide)]
      have e2 : am_I (am_rowI m (i1 + 1) (va_cpy (am_I m (i0 + 1)) (am_I m (i1 + 1)) x.toNatClampNeg y.toNatClampNeg z.toNatClampNeg)) (i1 + 1) = va_cpy (am_I m (i0 + 1)) (am_I m (i1 + 1)) x.toNatClampNeg y.toNatClampNeg z.toNatClampNeg := funext fun _ => if_pos rfl
      rw [e2]
      rfl
  refine va_copyi (rest := st.map (am_sh base b)) C.1 (am_C.b C) (by rw [hla1]; exact C.2.2.2.1.2.1) (am_C.own C) (am_C.w C hw rfl) (am_C.w C w1 rfl) (am_C.w C w2 rfl) (am_C.w C w3 rfl) C.2.2.1.2.2.2.2.1 hP am_ws_D C.2.2.2.2.2.2.2.1 i0 i1 0 0 he0 he1 (am_tys_at cy (by decide)) (am_tys_at cy (by decide)) rfl h1 h2 h3 h4 h5 (fun _ _ => rfl) (Nat.le_trans hf C.2.2.2.2.1.1)
    (by rw [am_cs_sh]; have e1 : nativeFrameWords "java/lang/System" "arraycopy" 5 = 7 := by decide +kernel
        rw [e1]; exact Nat.le_trans hlo C.2.2.2.2.1.2) hd (fun H1 locs1 hP1 _ hS1 => ?_)
  rw [hws] at hP1
  refine am_fix hP1 hS1 C.2.2.1.2.2.2.2.2.2.2.1 C.2.2.2.2.2.2.2.2 (fun hz => ?_)
  exact h p l e base b D cy R s mid args below meth c H1 locs1 cells slots la (am_ctx_put C hP1 hS1 hz rfl (fun _ => rfl)) hla
theorem am_copyJ {sc : Nat × (Nat → Int32)} {k pc q : Nat} {ls st : List Value} {m : am_Mem} {Q : am_Out → am_Mem → Prop} {idx a0 a1 : Nat} {x y z : Int32} (hd : am_at k pc (.invokestatic idx) 3 q) (hw : Cond.methodLink (am_y k).cls idx arraycopyName ∈ lw_tbl) (w1 : Cond.native arraycopyName ∈ lw_tbl) (w2 : Cond.static arraycopyName ∈ lw_tbl) (w3 : Cond.initialized "java/lang/System" ∈ lw_tbl) (hk0 : am_K m a0 = 12) (hk1 : am_K m a1 = 12)
    (h1 : ¬ x < 0) (h2 : ¬ y < 0) (h3 : ¬ z < 0) (h4 : x.toNatClampNeg + z.toNatClampNeg ≤ am_L m a0) (h5 : y.toNatClampNeg + z.toNatClampNeg ≤ am_L m a1) (hf : 1 ≤ am_fr k) (hlo : am_cs st + 18 ≤ am_lo k)
    (h : am_W sc k q ls st (am_rowJ m a1 (va_cpy (am_J m a0) (am_J m a1) x.toNatClampNeg y.toNatClampNeg z.toNatClampNeg)) Q) : am_W sc k pc ls (.int z :: .int y :: .ref a1 :: .int x :: .ref a0 :: st) m Q := by
  obtain ⟨hd, rfl⟩ := hd
  intro p l e base b D cy R s mid args below meth c H locs cells slots la C hla
  obtain ⟨hP, hz0, hO⟩ := C.2.2.2.2.2.2.1
  obtain ⟨i0, rfl, hi0⟩ := am_K_ix hO hk0 (by decide)
  obtain ⟨i1, rfl, hi1⟩ := am_K_ix hO hk1 (by decide)
  have he0 := am_ws_get (base := base) (cy := cy) hi0
  rw [am_cell_a hk0 (by decide), am_ac_j hk0] at he0
  have he1 := am_ws_get (base := base) (cy := cy) hi1
  rw [am_cell_a hk1 (by decide), am_ac_j hk1] at he1
  have hla1 := hla.1
  have hws : (am_ws base cy m).set i1 (base + i1, .inl (cy 12, am_L m (i1 + 1), Sum.inr (Sum.inl (va_cpy (am_J m (i0 + 1)) (am_J m (i1 + 1)) x.toNatClampNeg y.toNatClampNeg z.toNatClampNeg)))) = am_ws base cy (am_rowJ m (i1 + 1) (va_cpy (am_J m (i0 + 1)) (am_J m (i1 + 1)) x.toNatClampNeg y.toNatClampNeg z.toNatClampNeg)) := by
    refine am_ws_upd rfl (fun c hc => am_cell_congr rfl rfl ?_ ?_ (fun _ => rfl)) ?_
    · first | exact fun _ => rfl | exact fun j => if_neg hc
    · first | exact fun _ => rfl | exact fun j => if_neg hc
    · have e9 : am_K (am_rowJ m (i1 + 1) (va_cpy (am_J m (i0 + 1)) (am_J m (i1 + 1)) x.toNatClampNeg y.toNatClampNeg z.toNatClampNeg)) (i1 + 1) = 12 := hk1
      rw [am_cell_a e9 (by decide), am_ac_j e9]
      have e2 : am_J (am_rowJ m (i1 + 1) (va_cpy (am_J m (i0 + 1)) (am_J m (i1 + 1)) x.toNatClampNeg y.toNatClampNeg z.toNatClampNeg)) (i1 + 1) = va_cpy (am_J m (i0 + 1)) (am_J m (i1 + 1)) x.toNatClampNeg y.toNatClampNeg z.toNatClampNeg := funext fun _ => if_pos rfl
      rw [e2]
      rfl
  refine va_copyl (rest := st.map (am_sh base b)) C.1 (am_C.b C) (by rw [hla1]; exact C.2.2.2.1.2.1) (am_C.own C) (am_C.w C hw rfl) (am_C.w C w1 rfl) (am_C.w C w2 rfl) (am_C.w C w3 rfl) C.2.2.1.2.2.2.2.1 hP am_ws_D C.2.2.2.2.2.2.2.1 i0 i1 1 1 he0 he1 (am_tys_at cy (by decide)) (am_tys_at cy (by decide)) rfl h1 h2 h3 h4 h5 (fun _ _ => rfl) (Nat.le_trans hf C.2.2.2.2.1.1)
    (by rw [am_cs_sh]; have e1 : nativeFrameWords "java/lang/System" "arraycopy" 5 = 7 := by decide +kernel
        rw [e1]; exact Nat.le_trans hlo C.2.2.2.2.1.2) hd (fun H1 locs1 hP1 _ hS1 => ?_)
  rw [hws] at hP1
  refine am_fix hP1 hS1 C.2.2.1.2.2.2.2.2.2.2.1 C.2.2.2.2.2.2.2.2 (fun hz => ?_)
  exact h p l e base b D cy R s mid args below meth c H1 locs1 cells slots la (am_ctx_put C hP1 hS1 hz rfl (fun _ => rfl)) hla
end
section
/-! ends of a method -/
theorem am_ofMQ {sc : Nat × (Nat → Int32)} {k : Nat} {m : am_Mem} {p : Program} {l : Launch} {e : Env} {base b : Nat} {D : va_G} {cy : Nat → ClassId} {R : Room} {s : State} {mid : MethodId} {args : Array Value} {below : List Frame} {meth : Method} {c : Code} {H : Heap} {locs : List Loc} {cells slots : Nat} {Q : am_Out → am_Mem → Prop} {g : JFrame} {v : Option Value}
    (C : am_Ctx sc k m p l base b D cy R s mid meth c H locs cells slots) (hq : Q (.inl v) m)
    (h : W p l e R s mid args below meth c H locs cells slots (MQ below (fun _ _ o t => o = .returned (v.map (am_sh base b)) ∧ t.heap = H) args s cells slots (fun q => base ≤ q)) g) :
    W p l e R s mid args below meth c H locs cells slots (am_End base b D cy R s below Q) g := by
  intro T hT X
  obtain ⟨t, a, o, h1, h2, ⟨h3, h4⟩, L, ⟨-, h5, h6⟩, h7⟩ := h T hT X
  have hS := C.2.2.2.2.2.2.2.1
  refine ⟨t, a, o, .inl v, m, L, cells, slots, h1, h2, hq, h3, ?_, C.2.2.2.2.2.1, h5, h6, ?_, C.2.2.2.2.2.2.2.2⟩
  · rw [h4]; exact C.2.2.2.2.2.2.1
  · rw [h4]; exact ⟨hS.1, hS.2.1, h7⟩
theorem am_iret {sc : Nat × (Nat → Int32)} {k pc q : Nat} {ls : List Value} {m : am_Mem} {Q : am_Out → am_Mem → Prop} {v : Int32} (hd : am_at k pc .ireturn 1 q) (hr : am_rt k = some .int) (hq : Q (.inl (some (.int v))) m) : am_W sc k pc ls [.int v] m Q := by
  obtain ⟨hd, -⟩ := hd
  intro p l e base b D cy R s mid args below meth c H locs cells slots la C hla
  exact am_ofMQ C hq (W.iret C.1 (am_C.b C) (C.2.2.2.1.2.2.1.trans hr) (fun t ht _ => ⟨rfl, ht⟩) C.2.2.2.2.2.2.2.1.2.2 hd C.2.2.2.1.2.2.2.1)
theorem am_zret {sc : Nat × (Nat → Int32)} {k pc q : Nat} {ls : List Value} {m : am_Mem} {Q : am_Out → am_Mem → Prop} {v : Int32} (hd : am_at k pc .ireturn 1 q) (hr : am_rt k = some .boolean) (hv : v = 0 ∨ v = 1) (hq : Q (.inl (some (.int v))) m) : am_W sc k pc ls [.int v] m Q := by
  obtain ⟨hd, -⟩ := hd
  intro p l e base b D cy R s mid args below meth c H locs cells slots la C hla
  exact am_ofMQ C hq (W.zret C.1 (am_C.b C) (C.2.2.2.1.2.2.1.trans hr) (by rcases hv with rfl | rfl <;> rfl) (fun t ht _ => ⟨rfl, ht⟩) C.2.2.2.2.2.2.2.1.2.2 hd C.2.2.2.1.2.2.2.1)
theorem am_lret {sc : Nat × (Nat → Int32)} {k pc q : Nat} {ls : List Value} {m : am_Mem} {Q : am_Out → am_Mem → Prop} {v : Int64} (hd : am_at k pc .lreturn 1 q) (hr : am_rt k = some .long) (hq : Q (.inl (some (.long v))) m) : am_W sc k pc ls [.long v] m Q := by
  obtain ⟨hd, -⟩ := hd
  intro p l e base b D cy R s mid args below meth c H locs cells slots la C hla
  exact am_ofMQ C hq (W.lret C.1 (am_C.b C) (C.2.2.2.1.2.2.1.trans hr) (fun t ht _ => ⟨rfl, ht⟩) C.2.2.2.2.2.2.2.1.2.2 hd C.2.2.2.1.2.2.2.1)
theorem am_aret {sc : Nat × (Nat → Int32)} {k pc q : Nat} {ls : List Value} {m : am_Mem} {Q : am_Out → am_Mem → Prop} {x : Nat} {rt : FieldType} (hd : am_at k pc .areturn 1 q) (hr : am_rt k = some rt) (hrt : (∃ n, rt = .object n) ∨ ∃ t, rt = .array t) (hq : Q (.inl (some (.ref x))) m) : am_W sc k pc ls [.ref x] m Q := by
  obtain ⟨hd, -⟩ := hd
  intro p l e base b D cy R s mid args below meth c H locs cells slots la C hla
  exact am_ofMQ C hq (W.aret C.1 (am_C.b C) (C.2.2.2.1.2.2.1.trans hr) hrt (by cases x with | zero => exact Or.inl rfl | succ x => exact Or.inr ⟨_, rfl⟩) (fun t ht _ => ⟨rfl, ht⟩) C.2.2.2.2.2.2.2.1.2.2 hd C.2.2.2.1.2.2.2.1)
theorem am_vret {sc : Nat × (Nat → Int32)} {k pc q : Nat} {ls : List Value} {m : am_Mem} {Q : am_Out → am_Mem → Prop} (hd : am_at k pc .return_ 1 q) (hr : am_rt k = none) (hq : Q (.inl none) m) : am_W sc k pc ls [] m Q := by
  obtain ⟨hd, -⟩ := hd
  intro p l e base b D cy R s mid args below meth c H locs cells slots la C hla
  exact am_ofMQ C hq (W.vret C.1 (am_C.b C) (C.2.2.2.1.2.2.1.trans hr) (fun t ht _ => ⟨rfl, ht⟩) C.2.2.2.2.2.2.2.1.2.2 hd C.2.2.2.1.2.2.2.1)
/-! 'throw new E("text")', five instructions at once -/
def am_en2 : List String := ["java/lang/RuntimeException", "java/lang/Exception"]
/-- what a throw of the class kd needs of the tables -/
def am_tw (k kd ik is ic : Nat) (text : String) : Prop := 8 ≤ kd ∧ kd < 11 ∧ Bundle.fit (am_r kd).1 = true ∧ Cond.classLink (am_y k).cls ik (am_r kd).1 ∈ lw_tbl ∧ Cond.initialized (am_r kd).1 ∈ lw_tbl ∧ Cond.stringRef (am_y k).cls is text ∈ lw_tbl ∧
  (∀ w ∈ vx_atS (am_y k).cls ic (am_r kd).1 am_en2, w ∈ lw_tbl) ∧ (∀ w ∈ vx_atS (am_y k).cls ic (am_r kd).1 am_en2, (goodWord w || am_xk w) = true) ∧ (∀ w ∈ vx_atS (am_y k).cls ic (am_r kd).1 am_en2, vx_ot w = true)
theorem am_clE {kd : Nat} (h8 : 8 ≤ kd) (h11 : kd < 11) : am_cl[kd]? = some (am_r kd) ∧ am_fk kd = [] ∧ (am_r kd).2.2 = 0 := by
  match kd, h8, h11 with
  | 8, _, _ => exact ⟨rfl, rfl, rfl⟩
  | 9, _, _ => exact ⟨rfl, rfl, rfl⟩
  | 10, _, _ => exact ⟨rfl, rfl, rfl⟩
set_option maxHeartbeats 1000000 in
theorem am_throw {sc : Nat × (Nat → Int32)} {k pc : Nat} {ls st : List Value} {m : am_Mem} {Q : am_Out → am_Mem → Prop} {kd ik is ic : Nat} {text : String} (hw : am_tw k kd ik is ic text) (hh : am_hs k = [])
    (d0 : decode (am_b k) pc = .ok (.new ik, 3)) (d3 : decode (am_b k) (pc + 3) = .ok (.dup, 1)) (d4 : decode (am_b k) (pc + 4) = .ok (.ldc is, 2)) (d6 : decode (am_b k) (pc + 6) = .ok (.invokespecial ic, 3)) (d9 : decode (am_b k) (pc + 9) = .ok (.athrow, 1))
    (hf : 6 ≤ am_fr k) (hlo : am_cs st + 82 ≤ am_lo k) (hc : am_n m + 1 ≤ am_CM) (hs : am_u m + 6 ≤ am_SM) (hq : Q (.inr (am_n m + 1)) (am_new m kd 0 6)) : am_W sc k pc ls st m Q := by
  obtain ⟨hk8, hk11, hcls, wk, wini, wstr, wat, wgood, wot⟩ := hw
  intro p l e base b D cy R s mid args below meth c H locs cells slots la C hla
  obtain ⟨hexec, hl, hF, hFr, hRm, hRmm, ⟨hP, hz0, hO⟩, hS, hex⟩ := id C
  obtain ⟨F1, F2, F3, F4, hK, hX, hbb, hbs, hU, hN⟩ := id hF
  obtain ⟨sa, hstr⟩ := F3 _ _ _ wstr
  have hb : c.code = am_b k := hFr.1
  have hown := am_C.own C
  have hlocks : meth.locks = false := hFr.2.2.2.1
  have hrm := am_rm C hc hs
  have hsize : la.size = c.maxLocals := by rw [hla.1]; exact hFr.2.1.symm
  have hk := am_C.w C wk rfl (args := args)
  have hini := am_C.w C wini rfl (args := args)
  have hat : ∀ w ∈ vx_atS (am_y k).cls ic (am_r kd).1 am_en2, w.before args s = true := by
    intro w hw9
    have hg := wgood w hw9
    rw [Bool.or_eq_true] at hg
    rcases hg with hg | hg
    · exact F1 w (wat w hw9) hg args
    · refine va_tabs (A := #[]) ?_ rfl (F2 w (wat w hw9) hg)
      have := wot w hw9
      cases w <;> first | rfl | (cases hg; done) | exact this
  have hout : ∀ x ∈ c.exceptionTable.toList, covers x (pc + 9) = false := by
    have h9 := hFr.2.2.2.2.2.2
    rw [hh] at h9
    rw [List.map_eq_nil_iff] at h9
    rw [h9]
    exact fun x hx => nomatch hx
  intro T hT X
  have htr : e.platform.stackTraces = false := (show e.platform.stackTraces = l.stackTraces by rw [X.admits.platform]).trans hl
  have Y := vx_rebase X (R' := { frames := R.frames, locals := R.locals, cells := 1, slots := 6 }) (Nat.le_refl _) (Nat.le_refl _) hrm.1 hrm.2
  obtain ⟨s', hA⟩ : ∃ z, z = (T.setVm s.vm).setFrames (.invoking mid args :: below) := ⟨_, rfl⟩
  rw [← hA] at Y
  have hvm : s'.vm = s.vm := by rw [hA]; rfl
  have hhp : s'.heap = H := by rw [hA]; exact hT
  have hW0 : s.WarmedH s'.vm := by rw [hvm]; exact State.WarmedH.refl s
  have hat' : ∀ w ∈ vx_atS (am_y k).cls ic (am_r kd).1 am_en2, w.before args s' = true := fun w hw => vx_ot_at hW0 hvm.symm (wot w hw) (hat w hw)
  have hk' : (Cond.classLink (am_y k).cls ik (am_r kd).1).before args s' = true := vx_ot_at hW0 hvm.symm rfl hk
  have hini' : (Cond.initialized (am_r kd).1).before args s' = true := vx_ot_at hW0 hvm.symm rfl hini
  have hU' : vx_Zq Bundle.tN "UNASSIGNED_STACK" Bundle.steD (fun q => base ≤ q) s' s'.heap := by rw [hhp]; exact vx_Zq.moved hW0.alike (hU.kept hS.2.1)
  have hN' : vx_Zq Bundle.tN "SUPPRESSED_SENTINEL" Bundle.listD (fun q => base ≤ q) s' s'.heap := by rw [hhp]; exact vx_Zq.moved hW0.alike (hN.kept hS.2.1)
  have h : ∀ w ∈ Bundle.ownAtoms (am_y k).cls ic (am_r kd).1 am_en2, w.before args s' = true := vx_own hat' (vx_isRefq hU'.1) (vx_isRefq hN'.1) hU'.2.word hN'.2.word
  have hown' : s'.vm.findClass (am_y k).cls = some mid.cls := by rw [hvm]; exact hown
  have hins : (Cond.instantiable (am_r kd).1 6).before args s' = true := h _ (by simp [Bundle.ownAtoms])
  obtain ⟨vm₁, cX, kX, hfX, hkX, -, -, X₁, st1⟩ := Y.newCold hexec (own := (am_y k).cls) (C := (am_r kd).1) (index := ik) (n := 6) hown' hk' hins hini'
    (g := F0 mid pc la (st.map (am_sh base b))) rfl (by rw [hb]; exact d0) (Nat.le_refl _) (Nat.le_refl _)
  generalize hT1 : (T.setVm vm₁).pushCell { cls := cX, slots := kX.instanceTypes.map defaultValue, vm := .none } = T1 at X₁ st1
  have hcat : (Value.ref T.heap.size).category = 1 := rfl
  have hcellA : T1.heap[T.heap.size]? = some (freshCell cX kX) := by rw [← hT1]; exact State.heap_pushCell_size _ _
  have d3' : decode c.code (pc + 3) = .ok (.dup, 1) := by rw [hb]; exact d3
  have d4' : decode c.code (pc + 4) = .ok (.ldc is, 2) := by rw [hb]; exact d4
  have hstr' : vk_R (am_y k).cls is text sa s' := vk_R.warm hW0 hstr
  have hsum := am_cs_sh base b st
  have hlo2 := Nat.le_trans hlo hRm.2
  obtain ⟨U, hsteps, hrun, hend, hW, hsame, ce, hce, hO2⟩ := X₁.ctorThrowS hexec htr (own := (am_y k).cls) (cls := (am_r kd).1) (names := am_en2) (ic := ic) hown' hcls (by decide +kernel) h (fun x hx => nomatch hx) hfX hkX hcellA (by rw [hhp, hT]; exact Nat.le_refl _) (msg := .ref sa) rfl
    (g := { method := mid, pc := pc + 6, locals := la, stack := .ref sa :: .ref T.heap.size :: .ref T.heap.size :: st.map (am_sh base b), locked := none }) rfl hsize rfl rfl (rest := st.map (am_sh base b)) rfl
    (by rw [hb]; exact d6) (by rw [hb]; exact d9) hout (by show 2 + 3 < R.frames; have := Nat.le_trans hf hRm.1; omega) (by simp only [List.map_cons, List.sum_cons, hcat]; show 2 * 0 + _ + (13 * 3 + 42) ≤ R.locals; rw [hsum]; omega) hlocks
  obtain ⟨f1, f2⟩ := vx_frame hsame
  rw [hhp] at f1 f2
  have hWs : s.WarmedH U.vm := State.WarmedH.trans hW0 hW
  have hcl : s.vm.findClass (am_r kd).1 = some ce.cls := by
    have h9 := hO2.cls
    rw [hvm] at h9
    exact h9
  have hall : s.sameButNew ({ U with vm := s.vm } : State) locs (cells + 1) (slots + 6) := by
    subst hA
    obtain ⟨e1, e2⟩ := hsame
    rw [State.setFrames_setFrames] at e1
    have h2 : (T.setVm s.vm).sameButNew ({ U with vm := s.vm } : State) [] (0 + 1) (0 + 6) := ⟨e1, e2⟩
    have h3 := X.same.trans h2
    rw [List.append_nil] at h3
    exact h3.mono (Nat.le_refl _) (Nat.le_refl _)
  have hTH : T.heap.size = base + am_n m := by rw [hT]; exact hz0
  have hUsz : U.heap.size = base + am_n m + 1 := by
    have u1 : T.heap.size < U.heap.size := (Array.getElem?_eq_some_iff.mp hce).1
    have u2 : U.heap.size ≤ s.heap.size + (cells + 1) := hall.2.2.1
    omega
  have hold : ∀ q : Nat, q < H.size → U.heap[q]? = H[q]? := fun q hq => f2 q hq (fun z hz => nomatch hz)
  obtain ⟨hcl2, hfk0, hr0⟩ := am_clE hk8 hk11
  have hPn : va_P D am_cl (am_ws base cy (am_new m kd 0 6)) U.heap := by
    rw [← am_ws_new (m := m) (m' := am_new m kd 0 6) (E := .inr (kd, [])) rfl (fun c hc => am_new_cell hc) (by
      rw [am_cell_o am_new_K hk11, hfk0]
      rfl)]
    refine (hP.kept (fun k q hk => hold _ (hP k q hk).lt)).app (fun j q hj => ?_)
    have hj0 : j < 1 := (List.getElem?_eq_some_iff.mp hj).1
    rw [show j = 0 by omega] at hj
    cases hj
    refine ⟨am_r kd, hcl2, ce, by show U.heap[base + am_n m]? = _; rw [← hTH]; exact hce, ?_, hO2.vm, fun j hj => ?_⟩
    · exact Option.some.inj (hcl.symm.trans (hK.1 kd _ hcl2).2.1)
    · rw [hr0] at hj
      exact absurd hj (Nat.not_lt_zero _)
  have Cn := am_ctx_new (m' := am_new m kd 0 6) (sz := 6) (locs1 := locs) C hPn ⟨by have := hS.1; omega, fun q h1 h2 => (hold q (Nat.lt_of_lt_of_le h1 hS.1)).trans (hS.2.1 q h1 h2), hS.2.2⟩ hUsz rfl (fun a ha => am_new_Ko ha) hc hs
  refine ⟨U, ?_, .threw T.heap.size, .inr (am_n m + 1), am_new m kd 0 6, locs, cells + 1, slots + 6, hrun, hend, hq, ⟨am_n m, rfl, by rw [hTH]⟩, Cn.2.2.2.2.2.2.1, Cn.2.2.2.2.2.1, hWs, hall, Cn.2.2.2.2.2.2.2.1, Cn.2.2.2.2.2.2.2.2⟩
  refine st1 _ ?_
  show Steps p.tables e below (T1.setTop { method := mid, pc := pc + 3, locals := la, stack := .ref T.heap.size :: st.map (am_sh base b), locked := none }) _
  jvm_step X₁.here [X₁.here.top, hexec, d3', Value.category]
  exact X₁.ldcString hexec (own := (am_y k).cls) (text := text) (index := is) (a := sa) hown' hstr'.1 hstr'.2
    (g := { method := mid, pc := pc + 4, locals := la, stack := .ref T.heap.size :: .ref T.heap.size :: st.map (am_sh base b), locked := none }) rfl d4' _ hsteps
end
section
/-! calls -/
theorem am_steps_up {tb : Tables} {e : Env} {f : Frame} {below : List Frame} {s t : State} (h : Steps tb e (f :: below) s t) : Steps tb e below s t := by
  obtain ⟨n, hn, hw⟩ := h
  refine ⟨n, hn, fun k hk => ?_⟩
  obtain ⟨ab, h1, h2, h3⟩ := hw k hk
  refine ⟨ab ++ [f], by rw [h1]; simp, by simp, fun a h => ?_⟩
  cases ab with
  | nil => exact h2 rfl
  | cons x r =>
    have := congrArg List.length h
    simp at this
theorem am_F.moved {base b : Nat} {sc : Nat × (Nat → Int32)} {D : va_G} {cy : Nat → ClassId} {s U : State} (h : am_F base b sc D cy s) (hW : s.WarmedH U.vm) (hz : s.heap.size ≤ U.heap.size) (ho : ∀ q, q < s.heap.size → ¬ base ≤ q → U.heap[q]? = s.heap[q]?) : am_F base b sc D cy U := by
  obtain ⟨F1, F2, F3, F4, hK, hX, hbb, hbs, hU, hN⟩ := h
  refine ⟨fun w hw hg a => word_at hW (good_of_word hg) (F1 w hw hg #[]), fun w hw hg => ?_, fun own k tx hw => ?_, fun q hq => va_Nc.moved hW.alike (F4 q hq), va_K.moved hW.alike hK, ?_, hbb, Nat.le_trans hbs hz, ?_, ?_⟩
  · have h9 := F2 w hw hg
    cases w with
    | methodLinkNest a i x h => exact va_Nw.warmM hW h9
    | castable a c => exact va_Nw.warmC hW h9
    | declares x => exact va_Nw.warmD hW h9
    | arrayOver t => cases t with
      | object C => exact va_AO.moved hW.alike h9
      | _ => cases hg
    | _ => cases hg
  · obtain ⟨sa, h9⟩ := F3 own k tx hw
    exact ⟨sa, vk_R.warm hW h9⟩
  · exact va_X.moved hW.alike (hX.kept (ho b (Nat.lt_of_lt_of_le hbb hbs) (Nat.not_le.mpr hbb)))
  · exact vx_Zq.moved hW.alike (hU.kept ho)
  · exact vx_Zq.moved hW.alike (hN.kept ho)
/-- the object a is thrown over the frame of method k at pc -/
def am_TW (sc : Nat × (Nat → Int32)) (k pc : Nat) (ls rest : List Value) (a : Nat) (m : am_Mem) (Q : am_Out → am_Mem → Prop) : Prop :=
  ∀ (p : Program) (l : Launch) (e : Env) (base b : Nat) (D : va_G) (cy : Nat → ClassId) (R : Room) (s : State) (mid : MethodId) (args : Array Value) (below : List Frame) (meth : Method) (c : Code) (H : Heap) (locs : List Loc) (cells slots : Nat) (la : Array Slot) (x : Nat),
    am_Ctx sc k m p l base b D cy R s mid meth c H locs cells slots → am_ls base b ls la (am_ml k) → a = x + 1 → ∀ T : State, T.heap = H → Stand p l e R s mid args below meth c T locs cells slots →
    ∃ t, Steps p.tables e below ((T.setTop (F0 mid pc la (rest.map (am_sh base b)))).pushFrame (.throwing (base + x))) t ∧ am_End base b D cy R s below Q t
theorem am_out {sc : Nat × (Nat → Int32)} {k pc : Nat} {ls rest : List Value} {a : Nat} {m : am_Mem} {Q : am_Out → am_Mem → Prop} (hh : am_hs k = []) (hq : Q (.inr a) m) : am_TW sc k pc ls rest a m Q := by
  intro p l e base b D cy R s mid args below meth c H locs cells slots la x C hla hx T hT X
  have hout : ∀ y ∈ c.exceptionTable.toList, covers y (F0 mid pc la (rest.map (am_sh base b))).pc = false := by
    have h9 := C.2.2.2.1.2.2.2.2.2.2
    rw [hh, List.map_eq_nil_iff] at h9
    rw [h9]
    exact fun x hx => nomatch hx
  obtain ⟨st1, hrun, hend, hW, hsm⟩ := X.leaveThrown (base + x) (g := F0 mid pc la (rest.map (am_sh base b))) rfl rfl rfl hout C.2.2.2.1.2.2.2.1
  refine ⟨_, st1, .threw (base + x), .inr a, m, locs, cells, slots, hrun, hend, hq, ⟨x, hx, rfl⟩, ?_, C.2.2.2.2.2.1, hW, hsm, ?_, C.2.2.2.2.2.2.2.2⟩
  · show am_Rel base D cy m T.heap
    rw [hT]; exact C.2.2.2.2.2.2.1
  · show va_S _ s.heap T.heap locs
    rw [hT]; exact C.2.2.2.2.2.2.2.1
/-- the words of a handler's row: its class is the one of kind kd -/
theorem am_catch {sc : Nat × (Nat → Int32)} {k pc : Nat} {ls rest : List Value} {a kd : Nat} {m : am_Mem} {Q : am_Out → am_Mem → Prop} (pre : List (Nat × Nat × Nat × Nat)) (x0 : Nat × Nat × Nat × Nat) (suf : List (Nat × Nat × Nat × Nat)) (hh : am_hs k = pre ++ x0 :: suf)
    (hk : am_K m a = kd) (h8 : 8 ≤ kd) (h11 : kd < 11) (hx : x0.1 ≤ pc ∧ pc < x0.2.1) (h0 : x0.2.2.2 ≠ 0) (hw : Cond.classLink (am_y k).cls x0.2.2.2 (am_r kd).1 ∈ lw_tbl) (hc : Cond.castable (am_r kd).1 (am_r kd).1 ∈ lw_tbl)
    (hpre : ∀ y ∈ pre, y.2.2.2 ≠ 0 ∧ ∃ nm, Cond.classLink (am_y k).cls y.2.2.2 nm ∈ lw_tbl ∧ ((am_r kd).1, nm) ∈ am_ncs) (h : am_W sc k x0.2.2.1 ls [.ref a] m Q) : am_TW sc k pc ls rest a m Q := by
  intro p l e base b D cy R s mid args below meth c H locs cells slots la x C hla hax T hT X
  obtain ⟨hP, hz0, hO⟩ := C.2.2.2.2.2.2.1
  obtain ⟨F1, F2, F3, F4, hK, -⟩ := C.2.2.1
  obtain ⟨i, rfl, hi⟩ := am_K_ix hO hk (by omega)
  obtain rfl : i = x := by omega
  obtain ⟨hcl2, hfk0, hr0⟩ := am_clE h8 h11
  have he := am_ws_get (base := base) (cy := cy) hi
  rw [am_cell_o hk h11] at he
  obtain ⟨cell, g1, g2, g3⟩ := va_recv hK hP hcl2 he
  have hpl : e.platform.magicAccessors = ({} : Platform).magicAccessors := by rw [X.admits.platform]
  have hown := am_C.own C
  have hcast : (Cond.castable (am_r kd).1 (am_r kd).1).before args s = true := va_tabs (A := #[]) rfl rfl (F2 _ hc rfl)
  obtain ⟨c3, c4, hc3, hc4, hasg⟩ := Cond.castable_spec hcast
  cases Option.some.inj (hc3.symm.trans g3)
  obtain ⟨c5, hc5, hcl5⟩ := Cond.classLink_spec hown (am_C.w C hw rfl (args := args)) e.platform hpl
  cases Option.some.inj (hc4.symm.trans hc5)
  have htab := C.2.2.2.1.2.2.2.2.2.2
  rw [hh] at htab
  obtain ⟨L1, L2, hL, hL1, hL2⟩ := List.map_eq_append_iff.mp htab
  obtain ⟨y, L3, hL3, hy, hL4⟩ := List.map_eq_cons_iff.mp hL2
  subst hL3
  subst hy
  obtain ⟨vm', X', st⟩ := cx_caught X (base + i) (g := F0 mid pc la (rest.map (am_sh base b))) rfl (cell := cell) (by rw [hT]; exact g1) g2 (by obtain ⟨k9, h9, -⟩ := Vm.findClass_spec g3; exact ⟨k9, h9⟩) L1 y L3 hL
    (fun z hz => by
      have hz2 : (z.startPc, z.endPc, z.handlerPc, z.catchType) ∈ pre := by rw [← hL1]; exact List.mem_map.mpr ⟨z, hz, rfl⟩
      obtain ⟨n0, nm, w1, w2⟩ := hpre _ hz2
      obtain ⟨c6, hc6, hcl6⟩ := Cond.classLink_spec hown (am_C.w C w1 rfl (args := args)) e.platform hpl
      obtain ⟨a8, b8, q1, q2, q3⟩ := F4 _ w2
      cases Option.some.inj (q1.symm.trans g3)
      cases Option.some.inj (q2.symm.trans hc6)
      exact Or.inr ⟨n0, _, hcl6, q3⟩) (by simp only [covers]; simpa using hx) h0 hcl5 hasg
  obtain ⟨t, a1, b1⟩ := h p l e base b D cy R s mid args below meth c H locs cells slots la C hla (T.setVm vm') hT X'
  exact ⟨t, st t a1, b1⟩
/-! the entry of a callee -/
def am_en : List Value → List Value
  | [] => []
  | v :: r => if v.category = 2 then v :: .retAddr 1 :: am_en r else v :: am_en r
def am_ent (vs : List Value) (n : Nat) : List Value := am_en vs ++ List.replicate (n - (am_en vs).length) (.retAddr 1)
theorem am_en_sl (base b : Nat) : ∀ (vs : List Value), (am_en vs).length = (lg_sl (vs.map (am_sh base b))).length ∧ ∀ (i : Nat) (v : Value), (am_en vs)[i]? = some v → am_kn v = true → (lg_sl (vs.map (am_sh base b)))[i]? = some (.val (am_sh base b v)) := by
  intro vs
  induction vs with
  | nil => exact ⟨rfl, fun i v h => by simp [am_en] at h⟩
  | cons v r ih =>
    obtain ⟨h1, h2⟩ := ih
    have e1 : lg_sl ((v :: r).map (am_sh base b)) = (if (am_sh base b v).category = 2 then [.val (am_sh base b v), .second] else [.val (am_sh base b v)]) ++ lg_sl (r.map (am_sh base b)) := by
      simp [lg_sl]
    rw [e1, am_sh_cat]
    by_cases hc : v.category = 2
    · rw [if_pos hc]
      have e2 : am_en (v :: r) = v :: .retAddr 1 :: am_en r := by simp [am_en, hc]
      rw [e2]
      refine ⟨by simp [h1], fun i w hi hk => ?_⟩
      match i with
      | 0 =>
        simp at hi
        subst hi
        rfl
      | 1 =>
        simp at hi
        subst hi
        cases hk
      | i + 2 =>
        have h3 := h2 i w (by simpa using hi) hk
        simpa using h3
    · rw [if_neg hc]
      have e2 : am_en (v :: r) = v :: am_en r := by simp [am_en, hc]
      rw [e2]
      refine ⟨by simp [h1], fun i w hi hk => ?_⟩
      match i with
      | 0 =>
        simp at hi
        subst hi
        rfl
      | i + 1 =>
        have h3 := h2 i w (by simpa using hi) hk
        simpa using h3
theorem am_ent_ls (base b : Nat) (vs : List Value) (n : Nat) (hn : (am_en vs).length ≤ n) : am_ls base b (am_ent vs n) ((lg_sl (vs.map (am_sh base b)) ++ List.replicate (n - (lg_sl (vs.map (am_sh base b))).length) Slot.unset).toArray) n := by
  obtain ⟨h1, h2⟩ := am_en_sl base b vs
  obtain ⟨g1, g2, -⟩ := lv_entry (vs.map (am_sh base b)) (n := n) (by rw [← h1]; exact hn)
  refine ⟨g1, g2, fun i v hi hk => ?_⟩
  by_cases hl : i < (am_en vs).length
  · rw [am_ent, List.getElem?_append_left hl] at hi
    have h3 := h2 i v hi hk
    rw [List.getElem?_toArray, List.getElem?_append_left (by rw [← h1]; exact hl)]
    exact h3
  · rw [am_ent, List.getElem?_append_right (by omega), List.getElem?_replicate] at hi
    split at hi
    · cases hi
      cases hk
    · cases hi
/-- the code of method k2 is in the tables -/
def am_cd (k2 : Nat) : Prop := (Cond.code (am_y k2) (am_b k2) (am_ml k2) (am_rt k2) ∈ lw_tbl ∧ am_hs k2 = []) ∨ Cond.codeWith (am_y k2) (am_b k2) (am_ml k2) (am_rt k2) (am_hs k2) ∈ lw_tbl
theorem am_cd_at {s : State} {k2 : Nat} (hc : am_cd k2) (F1 : ∀ w ∈ lw_tbl, goodWord w = true → ∀ a, w.before a s = true) :
    ∃ mk meth2 c2, s.methodNamed? (am_y k2) = some mk ∧ s.vm.method? mk = some meth2 ∧ meth2.code = some c2 ∧ c2.code = am_b k2 ∧ c2.maxLocals = am_ml k2 ∧ meth2.sig.returnType = am_rt k2 ∧ meth2.locks = false ∧
      c2.exceptionTable.toList.map (fun h => (h.startPc, h.endPc, h.handlerPc, h.catchType)) = am_hs k2 ∧ parseMethodDescriptor (am_y k2).desc = some meth2.sig := by
  rcases hc with ⟨hw, hh⟩ | hw
  · have hcode := F1 _ hw rfl #[]
    obtain ⟨mk, hn⟩ := Cond.code_named hcode
    obtain ⟨meth2, c2, h1, h2, h3, h4, h5, h6, h7, h8⟩ := Cond.code_spec hn hcode
    refine ⟨mk, meth2, c2, hn, h1, h2, h3, h4, h5, h6, ?_, h8⟩
    have : c2.exceptionTable.toList = [] := by simpa using h7
    rw [this, hh]
    rfl
  · obtain ⟨mk, meth2, c2, hn, h1, h2, h3, h4, h5, h6, h7, h8⟩ := Cond.codeWith_spec (F1 _ hw rfl #[])
    exact ⟨mk, meth2, c2, hn, h1, h2, h3, h4, h6, h7, h5, h8⟩
set_option maxHeartbeats 1000000 in
theorem am_enter {sc : Nat × (Nat → Int32)} {k k2 pc : Nat} {ls vs rest : List Value} {m : am_Mem} {Q Q2 : am_Out → am_Mem → Prop} (hc : am_cd k2) (hpn : plainName (am_y k2).cls = true) (hf : am_fr k2 + 1 ≤ am_fr k) (hlo : am_cs rest + (am_ml k2 + 11) + am_lo k2 ≤ am_lo k) (hen : (am_en vs).length ≤ am_ml k2)
    (h2 : am_W sc k2 0 (am_ent vs (am_ml k2)) [] m Q2) (hret : ∀ v m', Q2 (.inl v) m' → am_W sc k (pc + 3) ls (v.toList ++ rest) m' Q) (hthr : ∀ a m', Q2 (.inr a) m' → am_TW sc k pc ls rest a m' Q)
    {p : Program} {l : Launch} {e : Env} {base b : Nat} {D : va_G} {cy : Nat → ClassId} {R : Room} {s : State} {mid : MethodId} {args : Array Value} {below : List Frame} {meth : Method} {c : Code} {H : Heap} {locs : List Loc} {cells slots : Nat} {la : Array Slot}
    (C : am_Ctx sc k m p l base b D cy R s mid meth c H locs cells slots) (hla : am_ls base b ls la (am_ml k)) {T : State} (hT : T.heap = H) (X : Stand p l e R s mid args below meth c T locs cells slots) {mk : MethodId} (hn : s.methodNamed? (am_y k2) = some mk) {ig : Instr} (hdg : decode (am_b k) pc = .ok (ig, 3)) :
    ∃ t, (∀ acts, Steps p.tables e below (doInvoke e (T.setTop (F0 mid pc la (rest.map (am_sh base b)))) acts mk (vs.map (am_sh base b)).toArray).1 t) ∧ am_End base b D cy R s below Q t := by
  obtain ⟨hexec, hl, hF, hFr, hRm, hRmm, ⟨hP, hz0, hO⟩, hS, hex⟩ := id C
  obtain ⟨mk', meth2, c2, hn', hm2, hc2, hb2, hml2, hr2, hlk2, htab2, hsig2⟩ := am_cd_at hc hF.1
  cases hn.symm.trans hn'
  have hRmm' := hRmm
  unfold am_Rm at hRmm'
  have hsz : (F0 mid pc la (rest.map (am_sh base b))).locals.size = c.maxLocals := by show la.size = _; rw [hla.1]; exact hFr.2.1.symm
  have hmT : T.vm.method? mk = some meth2 := by rw [X.warmed.alike.method?]; exact hm2
  have hpk : T.plainMethod mk := by
    intro kc hkc
    obtain ⟨k0, hk0, hnm⟩ := className_of_methodNamed hn
    obtain ⟨k1, hk1, he1⟩ := X.warmed.alike.2.2 _ _ hk0
    cases hk1.symm.trans hkc
    refine plain_of_name ?_
    rw [he1]
    show plainName k0.name = true
    rw [hnm]
    exact hpn
  obtain ⟨Y, hdo⟩ := X.into (g := F0 mid pc la (rest.map (am_sh base b))) rfl hsz (by rw [hFr.1]; exact hdg) (vs.map (am_sh base b)).toArray (R' := { frames := am_fr k2, cells := am_CM - am_n m, slots := am_SM - am_u m, locals := am_lo k2 }) hmT hc2 hlk2 hpk
    (Nat.le_trans hf hRm.1) (by show 2 * 0 + _ + (c2.maxLocals + 11) + am_lo k2 ≤ _; rw [am_cs_sh, hml2]; have := Nat.le_trans hlo hRm.2; omega) (by show cells + (am_CM - am_n m) ≤ _; omega) (by show slots + (am_SM - am_u m) ≤ _; omega)
  have hsh : (T.calling (F0 mid pc la (rest.map (am_sh base b))) mk (vs.map (am_sh base b)).toArray).heap = H := hT
  have hWs : s.WarmedH (T.calling (F0 mid pc la (rest.map (am_sh base b))) mk (vs.map (am_sh base b)).toArray).vm := X.warmed
  have hF2 : am_F base b sc D cy (T.calling (F0 mid pc la (rest.map (am_sh base b))) mk (vs.map (am_sh base b)).toArray) :=
    hF.moved hWs (by rw [hsh]; exact hS.1) (fun q h1 h2 => by rw [hsh]; exact hS.2.1 q h1 h2)
  have C2 : am_Ctx sc k2 m p l base b D cy { frames := am_fr k2, cells := am_CM - am_n m, slots := am_SM - am_u m, locals := am_lo k2 } (T.calling (F0 mid pc la (rest.map (am_sh base b))) mk (vs.map (am_sh base b)).toArray) mk meth2 c2 H [] 0 0 := by
    refine ⟨hexec, hl, hF2, ⟨hb2, hml2, hr2, hlk2, ?_, (name_of_methodNamed hn hm2).1, htab2⟩, ⟨Nat.le_refl _, Nat.le_refl _⟩, ?_, ⟨hP, hz0, hO⟩, ?_, ?_⟩
    · rw [hWs.alike.findClass]
      exact findClass_of_methodNamed hn
    · unfold am_Rm
      exact ⟨hRmm'.1, hRmm'.2.1, by show 0 + (am_CM - am_n m) ≤ am_CM - am_n m; omega, by show 0 + (am_SM - am_u m) ≤ am_SM - am_u m; omega⟩
    · rw [hsh]; exact va_S.rf
    · rw [hsh, hz0]; omega
  have hW2 := h2 p l e base b D cy _ _ mk (vs.map (am_sh base b)).toArray (.java (F0 mid pc la (rest.map (am_sh base b))) :: below) meth2 c2 H [] 0 0 _ C2 (am_ent_ls base b vs (am_ml k2) hen)
  rw [List.map_nil, ← lg_entry_eq, ← hml2] at hW2
  obtain ⟨t2, st2, o, out, m', L, k', n', h1, hend, hq, hoo, hrel, hrm, hwm, hsame, hva, hex'⟩ := hW2 _ (show ((T.setTop (F0 mid pc la (rest.map (am_sh base b)))).pushFrame (.java (entryFrame mk (vs.map (am_sh base b)).toArray c2.maxLocals))).heap = H from hT) Y
  have hst3 : ∀ acts, Steps p.tables e below (doInvoke e (T.setTop (F0 mid pc la (rest.map (am_sh base b)))) acts mk (vs.map (am_sh base b)).toArray).1 t2 := fun acts => by rw [hdo acts]; exact am_steps_up st2
  have hctx : ∀ T' : State, T'.heap = t2.heap → s.WarmedH T'.vm → am_Ctx sc k m' p l base b D cy R s mid meth c T'.heap (locs ++ L) (cells + k') (slots + n') := by
    intro T' hT' _
    unfold am_Rm at hrm
    rw [hsh] at hva hex'
    rw [hT']
    refine ⟨hexec, hl, hF, hFr, hRm, ?_, hrel, ⟨Nat.le_trans hS.1 hva.1, fun q g1 g2 => (hva.2.1 q (Nat.lt_of_lt_of_le g1 hS.1) g2).trans (hS.2.1 q g1 g2), fun z hz => ?_⟩, ?_⟩
    · unfold am_Rm
      have r3 : k' + (am_CM - am_n m') ≤ am_CM - am_n m := hrm.2.2.1
      have r4 : n' + (am_SM - am_u m') ≤ am_SM - am_u m := hrm.2.2.2
      refine ⟨hrm.1, hrm.2.1, by omega, by omega⟩
    · rcases List.mem_append.mp hz with h | h
      · exact hS.2.2 z h
      · exact hva.2.2 z h
    · omega
  cases out with
  | inl v =>
    have ho : o = .returned (v.map (am_sh base b)) := hoo
    subst ho
    obtain ⟨T', X', hW', hB', ht⟩ := X.outOf rfl (by rw [hFr.1]; exact hdg) hend hwm hsame
    have hhT : T'.heap = t2.heap := by rw [ht]; rfl
    obtain ⟨t3, st3, he3⟩ := hret v m' hq p l e base b D cy R s mid args below meth c T'.heap (locs ++ L) (cells + k') (slots + n') la (hctx T' hhT X'.warmed) hla T' rfl X'
    refine ⟨t3, fun acts => (hst3 acts).trans ?_, he3⟩
    rw [ht]
    have e5 : (v.toList ++ rest).map (am_sh base b) = (v.map (am_sh base b)).toList ++ rest.map (am_sh base b) := by cases v <;> rfl
    rw [e5] at st3
    exact st3
  | inr a =>
    obtain ⟨x, hax, ho⟩ := hoo
    subst ho
    obtain ⟨T', X', hW', hB', ht⟩ := X.outOfThrown rfl hend hwm hsame
    have hhT : T'.heap = t2.heap := by rw [ht]; rfl
    obtain ⟨t3, st3, he3⟩ := hthr a m' hq p l e base b D cy R s mid args below meth c T'.heap (locs ++ L) (cells + k') (slots + n') la x (hctx T' hhT X'.warmed) hla hax T' rfl X'
    refine ⟨t3, fun acts => (hst3 acts).trans ?_, he3⟩
    rw [ht]
    exact st3
end
section
/-! the three calls -/
/-- of method k2: its code, its name, n parameters (the receiver apart) -/
def am_mt (k2 n : Nat) : Prop := am_cd k2 ∧ plainName (am_y k2).cls = true ∧ ((am_y k2).cls ≠ "java/lang/invoke/MethodHandle" ∧ (am_y k2).cls ≠ "java/lang/invoke/VarHandle") ∧ ∀ sig, parseMethodDescriptor (am_y k2).desc = some sig → n = sig.parameters.length
def am_sS (k idx k2 : Nat) : Prop := Cond.methodLink (am_y k).cls idx (am_y k2) ∈ lw_tbl ∧ Cond.static (am_y k2) ∈ lw_tbl ∧ Cond.initialized (am_y k2).cls ∈ lw_tbl
def am_sV (k idx k2 ci : Nat) : Prop := Cond.methodLink (am_y k).cls idx (am_y k2) ∈ lw_tbl ∧ Cond.instanceMethod (am_y k2) ∈ lw_tbl ∧ Cond.selects (am_r ci).1 (am_y k2) (am_y k2) ∈ lw_tbl ∧ am_cl[ci]? = some (am_r ci) ∧ ci < 8
def am_sI (k idx k2 : Nat) : Prop := (Cond.methodLink (am_y k).cls idx (am_y k2) ∈ lw_tbl ∨ ∃ host, Cond.methodLinkNest (am_y k).cls idx (am_y k2) host ∈ lw_tbl) ∧ Cond.instanceMethod (am_y k2) ∈ lw_tbl ∧ (am_y k2).name = "<init>" ∧ Cond.code (am_y k2) (am_b k2) (am_ml k2) none ∈ lw_tbl
theorem am_callS {sc : Nat × (Nat → Int32)} {k k2 pc q idx n : Nat} {ls vs rest : List Value} {m : am_Mem} {Q Q2 : am_Out → am_Mem → Prop} (hd : am_at k pc (.invokestatic idx) 3 q) (hs : am_sS k idx k2) (hm : am_mt k2 n) (hn : vs.length = n) (hf : am_fr k2 + 1 ≤ am_fr k) (hlo : am_cs rest + (am_ml k2 + 11) + am_lo k2 ≤ am_lo k) (hen : (am_en vs).length ≤ am_ml k2)
    (h2 : am_W sc k2 0 (am_ent vs (am_ml k2)) [] m Q2) (hret : ∀ v m', Q2 (.inl v) m' → am_W sc k q ls (v.toList ++ rest) m' Q) (hthr : ∀ a m', Q2 (.inr a) m' → am_TW sc k pc ls rest a m' Q) : am_W sc k pc ls (vs.reverse ++ rest) m Q := by
  obtain ⟨hd, rfl⟩ := hd
  obtain ⟨w1, w2, w3⟩ := hs
  obtain ⟨hc, hpn, hy, hnp⟩ := hm
  intro p l e base b D cy R s mid args below meth c H locs cells slots la C hla T hT X
  obtain ⟨mk, meth2, c2, hnm, hm2, -, -, -, -, -, -, hsig⟩ := am_cd_at hc C.2.2.1.1
  obtain ⟨kP, hkP, -⟩ := className_of_methodNamed hnm
  have hstat := Cond.static_spec hnm hm2 (am_C.w C w2 rfl (args := args))
  have hini : kP.init = .initialized := Cond.initialized_spec (findClass_of_methodNamed hnm) hkP (am_C.w C w3 rfl (args := args))
  obtain ⟨vm1, X1, st1⟩ := X.invokestatic C.1 (am_C.own C) (am_C.w C w1 rfl) hnm hm2 hstat hkP hini hy (g := F0 mid pc la ((vs.reverse ++ rest).map (am_sh base b))) rfl (argsL := vs.map (am_sh base b)) (rest := rest.map (am_sh base b))
    (by rw [List.length_map, hn]; exact hnp _ hsig) (by show (vs.reverse ++ rest).map (am_sh base b) = _; rw [List.map_append, List.map_reverse]) (by rw [am_C.b C]; exact hd)
  obtain ⟨t, st2, he⟩ := am_enter hc hpn hf hlo hen h2 hret hthr C hla (T := T.setVm vm1) hT X1 hnm hd
  exact ⟨t, st1 t st2, he⟩
theorem am_callV {sc : Nat × (Nat → Int32)} {k k2 pc q idx n ci a : Nat} {ls vs rest : List Value} {m : am_Mem} {Q Q2 : am_Out → am_Mem → Prop} (hd : am_at k pc (.invokevirtual idx) 3 q) (hs : am_sV k idx k2 ci) (hm : am_mt k2 n) (hk : am_K m a = ci) (hn : vs.length = n) (hf : am_fr k2 + 1 ≤ am_fr k) (hlo : am_cs rest + (am_ml k2 + 11) + am_lo k2 ≤ am_lo k) (hen : (am_en (.ref a :: vs)).length ≤ am_ml k2)
    (h2 : am_W sc k2 0 (am_ent (.ref a :: vs) (am_ml k2)) [] m Q2) (hret : ∀ v m', Q2 (.inl v) m' → am_W sc k q ls (v.toList ++ rest) m' Q) (hthr : ∀ a m', Q2 (.inr a) m' → am_TW sc k pc ls rest a m' Q) : am_W sc k pc ls (vs.reverse ++ .ref a :: rest) m Q := by
  obtain ⟨hd, rfl⟩ := hd
  obtain ⟨w1, w2, w3, hcl2, hci⟩ := hs
  obtain ⟨hc, hpn, hy, hnp⟩ := hm
  intro p l e base b D cy R s mid args below meth c H locs cells slots la C hla T hT X
  obtain ⟨hP, hz0, hO⟩ := C.2.2.2.2.2.2.1
  obtain ⟨i, rfl, hi⟩ := am_K_ix hO hk (by omega)
  have he := am_ws_get (base := base) (cy := cy) hi
  rw [am_cell_o hk (by omega)] at he
  obtain ⟨cell, g1, g2, g3⟩ := va_recv C.2.2.1.2.2.2.2.1 hP hcl2 he
  obtain ⟨mk, meth2, c2, hnm, hm2, -, -, -, -, -, -, hsig⟩ := am_cd_at hc C.2.2.1.1
  obtain ⟨mk', methM, hnamed, hmethM, hstM, habM⟩ := Cond.instanceMethod_spec (am_C.w C w2 rfl (args := args))
  cases hnm.symm.trans hnamed
  cases hm2.symm.trans hmethM
  obtain ⟨c3, r3, m3, q1, q2, q3, q4, kP, hkP, hkPi⟩ := Cond.selects_spec (am_C.w C w3 rfl (args := args))
  cases g3.symm.trans q1
  cases (State.methodFound?_of_named hnamed hy).symm.trans q2
  cases hnamed.symm.trans q3
  have hselP : selectMethod e.platform s.vm cell.cls mk = .method mk := by rw [Launch.admits_selectMethod X.admits]; exact q4
  obtain ⟨vm1, X1, st1⟩ := X.invokevirtual C.1 (am_C.own C) (am_C.w C w1 rfl) hnamed hmethM hstM hkP hkPi hy (a := base + i) (cell := cell) (by rw [hT]; exact g1) (fun z h => by rw [h] at g2; cases g2) hselP hmethM habM hkP hkPi (g := F0 mid pc la ((vs.reverse ++ .ref (i + 1) :: rest).map (am_sh base b))) rfl (argsL := vs.map (am_sh base b)) (rest := rest.map (am_sh base b))
    (by rw [List.length_map, hn]; exact hnp _ hsig) (by show (vs.reverse ++ .ref (i + 1) :: rest).map (am_sh base b) = _; rw [List.map_append, List.map_reverse]; rfl) (by rw [am_C.b C]; exact hd)
  obtain ⟨t, st2, he⟩ := am_enter hc hpn hf hlo hen h2 hret hthr C hla (T := T.setVm vm1) hT X1 hnm hd
  exact ⟨t, st1 t st2, he⟩
theorem am_callI {sc : Nat × (Nat → Int32)} {k k2 pc q idx n a : Nat} {ls vs rest : List Value} {m : am_Mem} {Q Q2 : am_Out → am_Mem → Prop} (hd : am_at k pc (.invokespecial idx) 3 q) (hs : am_sI k idx k2) (hm : am_mt k2 n) (ha : ¬ a = 0) (hn : vs.length = n) (hf : am_fr k2 + 1 ≤ am_fr k) (hlo : am_cs rest + (am_ml k2 + 11) + am_lo k2 ≤ am_lo k) (hen : (am_en (.ref a :: vs)).length ≤ am_ml k2)
    (h2 : am_W sc k2 0 (am_ent (.ref a :: vs) (am_ml k2)) [] m Q2) (hret : ∀ v m', Q2 (.inl v) m' → am_W sc k q ls (v.toList ++ rest) m' Q) (hthr : ∀ a m', Q2 (.inr a) m' → am_TW sc k pc ls rest a m' Q) : am_W sc k pc ls (vs.reverse ++ .ref a :: rest) m Q := by
  obtain ⟨hd, rfl⟩ := hd
  obtain ⟨w1, w2, hy1, w4⟩ := hs
  obtain ⟨hc, hpn, hy, hnp⟩ := hm
  obtain ⟨i, rfl⟩ : ∃ i, a = i + 1 := ⟨a - 1, by omega⟩
  intro p l e base b D cy R s mid args below meth c H locs cells slots la C hla T hT X
  have hpl : e.platform.magicAccessors = ({} : Platform).magicAccessors := by rw [X.admits.platform]
  have hlen : ∀ sig, parseMethodDescriptor (am_y k2).desc = some sig → (vs.map (am_sh base b)).length = sig.parameters.length := fun sig h => by rw [List.length_map, hn]; exact hnp sig h
  have hstk : (F0 mid pc la ((vs.reverse ++ .ref (i + 1) :: rest).map (am_sh base b))).stack = (vs.map (am_sh base b)).reverse ++ .ref (base + i) :: rest.map (am_sh base b) := by
    show (vs.reverse ++ .ref (i + 1) :: rest).map (am_sh base b) = _
    rw [List.map_append, List.map_reverse]; rfl
  rcases w1 with w1 | ⟨host, w1⟩
  · obtain ⟨mk, methM, cM, kP, vm1, hnamed, -, -, -, -, -, -, -, hW1, st1⟩ := Steps.initColdArgs (e := e) (tb := p.tables) X.here C.1 X.warmed hpl (am_C.own C) hy1 hy (am_C.w C w1 rfl (args := args)) (am_C.w C w2 rfl) (am_C.w C w4 rfl) (f := F0 mid pc la ((vs.reverse ++ .ref (i + 1) :: rest).map (am_sh base b))) rfl hlen hstk (by rw [am_C.b C]; exact hd)
    obtain ⟨t, st2, he⟩ := am_enter hc hpn hf hlo hen h2 hret hthr C hla (T := T.setVm vm1) hT (X.noted hW1) hnamed hd
    exact ⟨t, st1 t st2, he⟩
  · have hlk : (Cond.methodLinkNest (am_y k).cls idx (am_y k2) host).before args s = true := va_Nw.use rfl (C.2.2.1.2.1 _ w1 rfl)
    obtain ⟨mk, methM, cM, kP, vm1, hnamed, -, -, -, -, -, -, -, hW1, st1⟩ := Steps.initColdArgsNest (e := e) (tb := p.tables) X.here C.1 X.warmed hpl (am_C.own C) hy1 hy hlk (am_C.w C w2 rfl) (am_C.w C w4 rfl) (f := F0 mid pc la ((vs.reverse ++ .ref (i + 1) :: rest).map (am_sh base b))) rfl hlen hstk (by rw [am_C.b C]; exact hd)
    obtain ⟨t, st2, he⟩ := am_enter hc hpn hf hlo hen h2 hret hthr C hla (T := T.setVm vm1) hT (X.noted hW1) hnamed hd
    exact ⟨t, st1 t st2, he⟩
end
section
/-! THE CLAIM OUT OF ONE WALK OF THE LAW'S BODY. Your part is whole_start (and what it stands on); all else here is the same for every law, but numbers. -/
def R_law : String := "ReadSideLaw"
def lw_P (b : Addr) (xs : List Int32) (args : Array Value) (s : State) : Prop := args = #[.ref b] ∧ s.IntsAt b xs ∧ xs.length ≤ 4098 ∧ (Jvm.Cond.and given_1 narrow_1).before args s = true
def lw_Q (_ : Array Value) (s : State) (o : Outcome) (t : State) : Prop := o = .returned (some (.int 1)) ∧ Framed s o t [] 601024 7293000
def lw_Z (below : List Frame) (a : Array Value) (s : State) : State → Prop := fun t => ∃ o, t.status = .running ∧ Ended t below o ∧ lw_Q a s o t
/-- the law's own end, with 1 on the stack, nothing written that was there before, its room as the claim has it -/
theorem lw_ret {p : Program} {l : Launch} {e : Env} {s : State} {m : MethodId} {below : List Frame} {meth : Method} {c : Code} {b : Nat} (hx : p.tables.exec = Jvm.exec) (hb : c.code = code) (hr : meth.sig.returnType = ret) (hlocks : meth.locks = false) {pc : Nat} {H : Heap} {ls : Array Slot} (hdg : decode code pc = .ok (.ireturn, 1)) : W p l e room_1 s m #[Value.ref b] below meth c H [] 601024 7293000 (lw_Z below #[Value.ref b] s) (F0 m pc ls [.int 1]) := by
  intro T hT X
  obtain ⟨fs, hret, hrun, hended, hW, hframe⟩ := X.leave (v := some (.int 1)) (hlocks := hlocks) (fun h => by rw [hr] at h; cases h)
  have hmeth' : T.vm.method? m = some meth := X.method'
  refine ⟨T.setFrames fs, ?_, .returned (some (.int 1)), hrun, hended, rfl, ⟨_, rfl⟩, hW, hframe⟩
  jvm_step X.here [X.here.top, hx, hb, hdg, hmeth', hr, ret, narrow_b1]
  (try refine ⟨rfl, ?_⟩); (try refine ⟨rfl, ?_⟩)
  first | (intro acts; rw [hret _ acts rfl rfl rfl]) | rw [hret _ _ rfl rfl rfl]
  exact Steps.refl _
/-- what holds at the law's entry: the machine, the code, the tables' words (any of lw_tbl by 'hts w (by decide +kernel)'), the script of L ints xs at the cell b, what the Statement gives of the start (any of its parts by flat_of_before) -/
def lw_At (p : Program) (s : State) (m : MethodId) (meth : Method) (c : Code) (b L : Nat) (xs : Nat → Int32) : Prop :=
  p.tables.exec = Jvm.exec ∧ c.code = code ∧ meth.sig.returnType = ret ∧ c.maxLocals = 8 ∧ s.vm.findClass R_law = some m.cls ∧ (∀ w ∈ lw_tbl, w.before #[Value.ref b] s = true) ∧ va_X b L xs s s.heap ∧ b < s.heap.size ∧ meth.locks = false ∧ (Jvm.Cond.and given_1 narrow_1).before #[Value.ref b] s = true
/-! THE START: the law's frame holds the abstract machine with an empty memory -/
def am_m0 : am_Mem := ((0, 0), fun _ => 99, fun _ => 0, fun _ _ => 0, fun _ _ => 0, fun _ _ => 0)
def am_isS (w : Cond) : Bool := match w with
  | .stringRef own _ _ => decide (own = "ReadSide")
  | _ => true
theorem am_isS_all : ∀ w ∈ lw_tbl, am_isS w = true := by decide +kernel
theorem am_kn1 {s : State} {b ci n : Nat} (hts : ∀ w ∈ lw_tbl, w.before #[Value.ref b] s = true) (hci : ci < 8) (hi : Cond.instantiable (am_r ci).1 n ∈ lw_tbl) : ∃ (cC : ClassId) (iS : Nat → Nat), u_Kn s (am_r ci).1 (am_r ci).2.1 (am_r ci).2.2 cC iS :=
  u_known hts (am_cp hci).2.2.1 (hts _ hi)
theorem am_kn2 {s : State} {b kd n : Nat} (hts : ∀ w ∈ lw_tbl, w.before #[Value.ref b] s = true) (h8 : 8 ≤ kd) (h11 : kd < 11) (hi : Cond.instantiable (am_r kd).1 n ∈ lw_tbl) : ∃ (cC : ClassId) (iS : Nat → Nat), u_Kn s (am_r kd).1 (am_r kd).2.1 (am_r kd).2.2 cC iS := by
  refine u_known hts (fun w hw => ?_) (hts _ hi)
  rw [(am_clE h8 h11).2.2] at hw
  simp [u_ws] at hw
theorem am_pa {s : State} {b : Nat} {ty : FieldType} (h : (Cond.arrayClass ty).before #[Value.ref b] s = true) (hty : ∀ C, ty ≠ .object C) : ∃ cA : ClassId, ArrOfT s cA ty ∧ va_RA s cA ty := by
  obtain ⟨cA, kA, comp, h1, h2, h3⟩ := Cond.arrayClass_spec h
  refine ⟨cA, fun n z => ⟨fun k h => (by cases h), kA, h2, comp, h3⟩, ?_⟩
  cases ty with
  | object C => exact absurd rfl (hty C)
  | _ => exact h1
theorem am_qa {s : State} {b : Nat} {C : String} (h : (Cond.arrayOver (.object C)).before #[Value.ref b] s = true) : ∃ cA : ClassId, ArrOfT s cA (.object C) ∧ va_RA s cA (.object C) := by
  obtain ⟨comp, cA, kA, h1, -, h2, h3, h4⟩ := Cond.arrayOver_spec h
  exact ⟨cA, fun n z => ⟨fun k h => (by cases h), kA, h2, comp, h3⟩, kA, comp, h2, h3, h1, h4⟩
theorem am_K0 {s : State} {b : Nat} (hts : ∀ w ∈ lw_tbl, w.before #[Value.ref b] s = true) : ∃ (D : va_G) (cy : Nat → ClassId), va_K D am_cl (am_tys cy) s := by
  have h0 := am_kn1 (n := 5) (ci := 0) hts (by decide) (by decide +kernel)
  have h1 := am_kn1 (n := 3) (ci := 1) hts (by decide) (by decide +kernel)
  have h2 := am_kn1 (n := 11) (ci := 2) hts (by decide) (by decide +kernel)
  have h3 := am_kn1 (n := 7) (ci := 3) hts (by decide) (by decide +kernel)
  have h4 := am_kn1 (n := 4) (ci := 4) hts (by decide) (by decide +kernel)
  have h5 := am_kn1 (n := 7) (ci := 5) hts (by decide) (by decide +kernel)
  have h6 := am_kn1 (n := 10) (ci := 6) hts (by decide) (by decide +kernel)
  have h7 := am_kn1 (n := 39) (ci := 7) hts (by decide) (by decide +kernel)
  have h8 := am_kn2 (n := 6) (kd := 8) hts (by decide) (by decide) (by decide +kernel)
  have h9 := am_kn2 (n := 6) (kd := 9) hts (by decide) (by decide) (by decide +kernel)
  have h10 := am_kn2 (n := 6) (kd := 10) hts (by decide) (by decide) (by decide +kernel)
  have hall : ∀ ci, ∃ (q : ClassId × (Nat → Nat)), ci < 11 → u_Kn s (am_r ci).1 (am_r ci).2.1 (am_r ci).2.2 q.1 q.2 := by
    intro ci
    by_cases hci : ci < 11
    · have : ∃ (cC : ClassId) (iS : Nat → Nat), u_Kn s (am_r ci).1 (am_r ci).2.1 (am_r ci).2.2 cC iS := by
        rcases (show ci = 0 ∨ ci = 1 ∨ ci = 2 ∨ ci = 3 ∨ ci = 4 ∨ ci = 5 ∨ ci = 6 ∨ ci = 7 ∨ ci = 8 ∨ ci = 9 ∨ ci = 10 by omega) with rfl | rfl | rfl | rfl | rfl | rfl | rfl | rfl | rfl | rfl | rfl
        · exact h0
        · exact h1
        · exact h2
        · exact h3
        · exact h4
        · exact h5
        · exact h6
        · exact h7
        · exact h8
        · exact h9
        · exact h10
      obtain ⟨cC, iS, h⟩ := this
      exact ⟨(cC, iS), fun _ => h⟩
    · exact ⟨(0, fun _ => 0), fun h => absurd h hci⟩
  have a0 := am_pa (ty := .int) (hts _ (by decide +kernel)) (fun C h => by cases h)
  have a1 := am_pa (ty := .long) (hts _ (by decide +kernel)) (fun C h => by cases h)
  have a2 := am_pa (ty := .boolean) (hts _ (by decide +kernel)) (fun C h => by cases h)
  have a3 := am_qa (C := "ReadSide$Command") (hts _ (by decide +kernel))
  have a4 := am_qa (C := "ReadSide$Log") (hts _ (by decide +kernel))
  have a5 := am_qa (C := "ReadSide$Read") (hts _ (by decide +kernel))
  have a6 := am_qa (C := "ReadSide$Replica") (hts _ (by decide +kernel))
  have a7 := am_qa (C := "ReadSide$Session") (hts _ (by decide +kernel))
  have hal2 : ∀ j, ∃ cA : ClassId, j < 8 → ArrOfT s cA (am_an j) ∧ va_RA s cA (am_an j) := by
    intro j
    by_cases hj : j < 8
    · have : ∃ cA : ClassId, ArrOfT s cA (am_an j) ∧ va_RA s cA (am_an j) := by
        rcases (show j = 0 ∨ j = 1 ∨ j = 2 ∨ j = 3 ∨ j = 4 ∨ j = 5 ∨ j = 6 ∨ j = 7 by omega) with rfl | rfl | rfl | rfl | rfl | rfl | rfl | rfl
        · exact a0
        · exact a1
        · exact a2
        · exact a3
        · exact a4
        · exact a5
        · exact a6
        · exact a7
      obtain ⟨cA, h⟩ := this
      exact ⟨cA, fun _ => h⟩
    · exact ⟨0, fun h => absurd h hj⟩
  refine ⟨(fun ci => (Classical.choose (hall ci)).1, fun ci => (Classical.choose (hall ci)).2), fun x => Classical.choose (hal2 (x - 11)), fun ci q hq => ?_, fun j q hq => ?_⟩
  · have hci : ci < 11 := by
      have := (List.getElem?_eq_some_iff.mp hq).1
      exact this
    have e1 : q = am_r ci := by
      unfold am_r
      rw [List.getD_eq_getElem?_getD, hq]
      rfl
    rw [e1]
    exact Classical.choose_spec (hall ci) hci
  · have hj : j < 8 := by
      have := (List.getElem?_eq_some_iff.mp hq).1
      rwa [am_tyl] at this
    rw [am_tys_at _ hj] at hq
    cases hq
    have e2 : 11 + j - 11 = j := by omega
    show ArrOfT s (Classical.choose (hal2 (11 + j - 11))) (am_an j) ∧ va_RA s (Classical.choose (hal2 (11 + j - 11))) (am_an j)
    rw [e2]
    exact Classical.choose_spec (hal2 j) hj
theorem am_go {p : Program} {e : Env} {s : State} {m : MethodId} {below : List Frame} {meth : Method} {c : Code} (l : Launch) {b L : Nat} {xs : Nat → Int32} (hl : l.stackTraces = false) (hnm : meth.name = "law") (htab : c.exceptionTable.toList = []) (C0 : lw_At p s m meth c b L xs)
    (hrun : am_W (L, xs) 131 0 (am_ent [.retAddr 0] 8) [] am_m0 (fun o _ => o = .inl (some (.int 1)))) : W p l e room_1 s m #[Value.ref b] below meth c s.heap [] 0 0 (lw_Z below #[Value.ref b] s) (entryFrame m ([Value.ref b] : List Value).toArray 8) := by
  obtain ⟨hx, hb, hr, hml, hown, hts, hX, hbl, hlocks, hgv⟩ := id C0
  obtain ⟨D, cy, hK⟩ := am_K0 hts
  have hs := flat_of_before _ hgv
  have hA : ∀ a : Nat, a < s.heap.size → ¬ (fun q => s.heap.size ≤ q) a := fun a h => Nat.not_le.mpr h
  have hF : am_F s.heap.size b (L, xs) D cy s := by
    refine ⟨fun w hw hg a => word_at (State.WarmedH.refl s) (good_of_word hg) (hts w hw), fun w hw hg => ?_, fun own k tx hw => ?_, fun q hq => ?_, hK, hX, hbl, Nat.le_refl _, ?_, ?_⟩
    · have h9 := hts w hw
      cases w with
      | methodLinkNest a i x h => exact va_Nw.of rfl h9
      | castable a c => exact va_Nw.of rfl h9
      | declares x => exact va_Nw.of rfl h9
      | arrayOver t => cases t with
        | object C => exact va_AO.of h9
        | _ => cases hg
      | _ => cases hg
    · have h8 := am_isS_all _ hw
      have h7 : own = "ReadSide" := of_decide_eq_true h8
      subst h7
      have h9 := hts _ hw
      obtain ⟨cur, kk, hcur, -⟩ := Cond.instantiable_spec (hts (.instantiable "ReadSide" 10) (by decide +kernel))
      obtain ⟨-, -, -, a, -, -, -, -, -, h6⟩ := Cond.stringRef_spec hcur h9
      exact ⟨a, vk_R.of h9 h6⟩
    · have h9 : ∀ q ∈ am_ncs, Cond.not (.castable q.1 q.2) ∈ flatC (Jvm.Cond.and given_1 narrow_1) := by decide +kernel
      exact va_Nc.of (hs _ (h9 q hq))
    · exact vx_Zqof (hts (.laysStatic Bundle.tN "UNASSIGNED_STACK" Bundle.steD) (by decide +kernel)) (hts (.initialized Bundle.tN) (by decide +kernel)) (hs _ (by decide +kernel)) hA
    · exact vx_Zqof (hts (.laysStatic Bundle.tN "SUPPRESSED_SENTINEL" Bundle.listD) (by decide +kernel)) (hts (.initialized Bundle.tN) (by decide +kernel)) (hs _ (by decide +kernel)) hA
  have C : am_Ctx (L, xs) 131 am_m0 p l s.heap.size b D cy room_1 s m meth c s.heap [] 0 0 := by
    refine ⟨hx, hl, hF, ⟨hb, hml, hr, hlocks, hown, hnm, by rw [htab]; rfl⟩, ⟨by decide +kernel, by decide +kernel⟩, ⟨by decide, by decide, by decide +kernel, by decide +kernel⟩, ⟨fun k q h => by simp [am_ws, am_n, am_m0] at h, rfl, fun _ _ => rfl⟩, va_S.rf, rfl⟩
  have hrun2 := hrun p l e s.heap.size b D cy room_1 s m #[Value.ref b] below meth c s.heap [] 0 0 _ C (am_ent_ls s.heap.size b [.retAddr 0] 8 (by decide))
  rw [lg_entry_eq]
  intro T hT X
  obtain ⟨t, st, o, out, m', L', k', n', h1, h2, hq, hoo, hrel, hrm, hW, hsame, hva, hex⟩ := hrun2 T hT X
  subst hq
  have ho : o = .returned (some (.int 1)) := hoo
  subst ho
  unfold am_Rm at hrm
  refine ⟨t, st, _, h1, h2, rfl, ⟨_, rfl⟩, hW, ?_⟩
  have hc : k' ≤ 601024 := by have := hrm.2.2.1; have e9 : room_1.cells = 601024 := rfl; omega
  have hn : n' ≤ 7293000 := by have := hrm.2.2.2; have e9 : room_1.slots = 7293000 := rfl; omega
  obtain ⟨e1, e2, e3, e4, e5, e6⟩ := hsame.mono hc hn
  refine ⟨e1, e2, e3, e4, e5, fun a c0 h0 => ?_⟩
  obtain ⟨c', g1, g2, g3, g4⟩ := e6 a c0 h0
  refine ⟨c', g1, g2, g3, fun i _ => g4 i (fun hm => ?_)⟩
  have h5 : s.heap.size ≤ a := hva.2.2 _ hm
  have h6 : a < s.heap.size := (Array.getElem?_eq_some_iff.mp h0).1
  exact absurd h6 (Nat.not_lt.mpr h5)
end
section
/-! the claim out of the abstract machine's run of the law -/
theorem whole_run {L : Nat} {xs : Nat → Int32} (hL : L ≤ 4098) : am_W (L, xs) 131 0 (am_ent [.retAddr 0] 8) [] am_m0 (fun o _ => o = .inl (some (.int 1))) := by
  sorry
set_option maxHeartbeats 4000000 in
theorem lw_walk (l : Launch) (hlt : l.stackTraces = false) (b : Addr) (xs : List Int32) : MetFree l x (headSpec (Jvm.Cond.code x code maxLocals ret :: tables_1) room_1) (lw_P b xs) (fun _ _ _ _ _ => True) lw_Q := by
  refine MetFree.of_bodyS (code := code) (maxLocals := maxLocals) (ret := ret) (by decide) ?_ ?_
  · intro args s m h hn
    obtain ⟨meth, c, h1, h2, h3, h4, h5, h6, -, -⟩ := Cond.code_spec hn (atoms_spec (ws := Jvm.Cond.code x code maxLocals ret :: tables_1) h _ List.mem_cons_self)
    exact ⟨meth, c, h1, h2, h3, h4, h5, h6⟩
  · intro p e s m args below meth c s₁ B hml0 hP _
    obtain ⟨rfl, hx, hbd, hgv⟩ := hP
    obtain ⟨scr, harrAt, hlist, hof, hsmall⟩ := hx
    obtain ⟨hcb, hkn, -, -⟩ := State.arrayAt?_spec harrAt
    have hown : s.vm.findClass R_law = some m.cls := findClass_of_methodNamed B.named
    have hts0 : ∀ c ∈ (Jvm.Cond.code x code maxLocals ret :: tables_1), c.before #[Value.ref b] s = true := atoms_spec (ws := Jvm.Cond.code x code maxLocals ret :: tables_1) B.pre
    have hts : ∀ w ∈ lw_tbl, w.before #[Value.ref b] s = true := k2_hts_sels lw_privs (fun w hw => hts0 w (List.mem_cons_of_mem _ hw)) lw_privs_ok
    have hml : c.maxLocals = 8 := B.maxLocals_eq (hts0 _ List.mem_cons_self)
    have X₀ : Stand p l e room_1 s m #[Value.ref b] below meth c s₁ [] 0 0 := Stand.of_body B
    have hh0 : s₁.heap = s.heap := by rw [B.state]; rfl
    have hsz : scr.slots.size = xs.length := by rw [← Array.length_toList, hlist, List.length_map]
    have hval : ∀ j : Nat, j < xs.length → scr.slots[j]? = some (.int (xs.getD j 0)) := fun j hj => by
      rw [← Array.getElem?_toList, hlist]
      simp [hj]
    have hbl : b < s.heap.size := (Array.getElem?_eq_some_iff.mp hcb).1
    have hX : va_X b xs.length (fun j => xs.getD j 0) s s.heap := ⟨scr, hcb, hof, hkn, hsz, hval⟩
    have K : W p l e room_1 s m #[Value.ref b] below meth c s₁.heap [] 0 0 (lw_Z below #[Value.ref b] s) (entryFrame m ([Value.ref b] : List Value).toArray 8) := by
      rw [hh0]
      exact am_go l hlt (name_of_methodNamed B.named B.method).1 (by simpa using B.noHandlers (hts0 _ List.mem_cons_self)) ⟨B.exec, B.bytes, B.returns, hml, hown, hts, hX, hbl, B.notSynchronized, hgv⟩ (whole_run hbd)
    obtain ⟨t, a1, o, b1, b2, b3⟩ := K s₁ rfl X₀
    exact ⟨t, o, a1, b1, b2, b3⟩
theorem lw_pre_spec {args : Array Value} {s : State} (h : (Jvm.Cond.and given_1 narrow_1).before args s = true) (hr : rest_1_c.before args s = true) : ∃ (b : Addr) (xs : List Int32), lw_P b xs args s := by
  have hs := flat_of_before _ h
  have hq := flat_of_before _ hr
  have hc : (Cond.count 1).before args s = true := hs _ (by decide +kernel)
  have harr : (Cond.arrayOf (.arg 0) .int).before args s = true := hs _ (by decide +kernel)
  have hle : (Cond.le (.length (.arg 0)) (.int 4098)).before args s = true := hs _ (by decide +kernel)
  have hlen : (Cond.isInt (.length (.arg 0))).before args s = true := hq _ (by decide +kernel)
  have hall : (Cond.all (.arg 0) (.isInt (.elem (.arg 0) (.index 0)))).before args s = true := hq _ (by decide +kernel)
  obtain ⟨b, xs, hb, hx⟩ := State.ints_of_pre rfl harr hlen hall
  have hsm : xs.length < 2 ^ 31 := hx.choose_spec.2.2.2
  have hev : (Term.length (.arg 0)).eval args s none [] s = some (.int xs.length.toInt32) := hx.length_eval hb
  have hv := Cond.le_ints hev (show (Term.int 4098).eval args s none [] s = some (.int 4098) from rfl)
  have hd : xs.length.toInt32 ≤ 4098 := by
    simpa [Cond.before, Cond.holds, hv] using hle
  have hN : xs.length ≤ 4098 := (Int32.ofNat_le_ofNat hsm (by decide)).mp (show Int32.ofNat xs.length ≤ Int32.ofNat 4098 from hd)
  exact ⟨b, xs, Cond.one_arg hc (show args[0]? = some (.ref b) from hb), hx, hN, h⟩
theorem lw_comes (l : Launch) (hlt : l.stackTraces = false) : Comes l x (Jvm.Cond.code x code maxLocals ret :: tables_1) room_1 (fun tb e args s => Calls_1 tb e args s ∧ rest_1 tb e args s ∧ Pre_1 tb e args s)
    (fun _ _ args s o t => lw_Q args s o t) := by
  intro p e ha hc hk s m args below hf hfit hheap happ hpre
  obtain ⟨b, xs, hP⟩ := lw_pre_spec hpre.2.2 hpre.2.1
  obtain ⟨k, o, h1, h2, h3, hQ⟩ := lw_walk l hlt b xs p e ha hc hk s m args below hf ((Spec.applies_iff_loose hf).mp happ).1 hP trivial
  exact ⟨k, o, h1, h2, h3, hQ⟩
theorem lw_frame {s t : State} {o : Outcome} {args : Array Value} (h : Framed s o t [] 601024 7293000) :
    Framed s o t (fieldLocs frame_1_writes args s ++ arrayLocs frame_1_arrays args s ++ staticLocs frame_1_statics s) 601024 7293000 := h
theorem lw_limb (L : Cond) (hL : ∀ (args : Array Value) (s t : State), L.after args s (.returned (some (.int 1))) t = true) :
    ArmFor flags0 classFile x code maxLocals ret World_1 tables_1 room_1 Calls_1 rest_1 Pre_1
      (fun tb e a s o t => postC L tb e a s o t ∧ Framed s o t (fieldLocs frame_1_writes a s ++ arrayLocs frame_1_arrays a s ++ staticLocs frame_1_statics s) 601024 7293000) := by
  intro l hfl _ _ p e ha hc hk s m args below hf hfit hheap happ hpre
  have hlt : l.stackTraces = false := by unfold Launch.stackTraces; rw [hfl]; decide +kernel
  obtain ⟨k, o, h1, h2, h3, rfl, hF⟩ := lw_comes l hlt p e ha hc hk s m args below hf hfit hheap happ hpre
  exact ⟨k, _, h1, h2, h3, hL args s _, lw_frame hF⟩
theorem i_vc : Claimed_1_1 ∧ Claimed_1_2 := ⟨lw_limb limb_1_1 (fun args s t => by simp [limb_1_1, Cond.after, Cond.holds, Cond.value]), lw_limb limb_1_2 (fun args s t => Cond.after_iff.mpr (by
  first | (rw [show limb_1_2 = Cond.eq .result (.int 1) from rfl, Cond.eq_ints (x := 1) (y := 1) rfl rfl]; simp; done) | (simp [limb_1_2, Cond.value, Term.eval]; done)))⟩
end
