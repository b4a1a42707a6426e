section
-- ===== PART A: goes FIRST, ahead of the names: the tables' words, and 'selects' of the private methods out of them =====
/-- a private method of a class that the tables say can be made, by its rows of tables_1 -/
def lw_okq (q : MethodName × Nat) : Prop := (q.1.cls ≠ "java/lang/invoke/MethodHandle" ∧ q.1.cls ≠ "java/lang/invoke/VarHandle") ∧ Cond.instantiable q.1.cls q.2 ∈ tables_1 ∧ Cond.privateMethod q.1 ∈ tables_1 ∧ Cond.instanceMethod q.1 ∈ tables_1
theorem lw_p0 : lw_okq (⟨"ReadSide", "leastKept", "(I)I"⟩, 10) := ⟨⟨by decide +kernel, by decide +kernel⟩, List.mem_of_getElem? (i := 18) (by decide +kernel), List.mem_of_getElem? (i := 170) (by decide +kernel), List.mem_of_getElem? (i := 171) (by decide +kernel)⟩
theorem lw_p1 : lw_okq (⟨"java/lang/Throwable", "fillInStackTrace", "(I)Ljava/lang/Throwable;"⟩, 6) := ⟨⟨by decide +kernel, by decide +kernel⟩, List.mem_of_getElem? (i := 234) (by decide +kernel), List.mem_of_getElem? (i := 232) (by decide +kernel), List.mem_of_getElem? (i := 233) (by decide +kernel)⟩
theorem lw_p2 : lw_okq (⟨"ReadSide", "lookAtWaiting", "(I)V"⟩, 10) := ⟨⟨by decide +kernel, by decide +kernel⟩, List.mem_of_getElem? (i := 18) (by decide +kernel), List.mem_of_getElem? (i := 283) (by decide +kernel), List.mem_of_getElem? (i := 284) (by decide +kernel)⟩
theorem lw_p3 : lw_okq (⟨"ReadSide", "mayAnswer", "(LReadSide$Replica;LReadSide$Read;)Z"⟩, 10) := ⟨⟨by decide +kernel, by decide +kernel⟩, List.mem_of_getElem? (i := 18) (by decide +kernel), List.mem_of_getElem? (i := 287) (by decide +kernel), List.mem_of_getElem? (i := 288) (by decide +kernel)⟩
theorem lw_p4 : lw_okq (⟨"ReadSide", "leastFor", "(LReadSide$Read;I)I"⟩, 10) := ⟨⟨by decide +kernel, by decide +kernel⟩, List.mem_of_getElem? (i := 18) (by decide +kernel), List.mem_of_getElem? (i := 291) (by decide +kernel), List.mem_of_getElem? (i := 292) (by decide +kernel)⟩
theorem lw_p5 : lw_okq (⟨"ReadSide", "answer", "(LReadSide$Read;I)V"⟩, 10) := ⟨⟨by decide +kernel, by decide +kernel⟩, List.mem_of_getElem? (i := 18) (by decide +kernel), List.mem_of_getElem? (i := 301) (by decide +kernel), List.mem_of_getElem? (i := 302) (by decide +kernel)⟩
theorem lw_p6 : lw_okq (⟨"ReadSide", "forgetEnded", "()V"⟩, 10) := ⟨⟨by decide +kernel, by decide +kernel⟩, List.mem_of_getElem? (i := 18) (by decide +kernel), List.mem_of_getElem? (i := 333) (by decide +kernel), List.mem_of_getElem? (i := 334) (by decide +kernel)⟩
theorem lw_p7 : lw_okq (⟨"ReadSide", "takeStep", "(II)I"⟩, 10) := ⟨⟨by decide +kernel, by decide +kernel⟩, List.mem_of_getElem? (i := 18) (by decide +kernel), List.mem_of_getElem? (i := 424) (by decide +kernel), List.mem_of_getElem? (i := 425) (by decide +kernel)⟩
theorem lw_p8 : lw_okq (⟨"ReadSide", "takeStepsOfTick", "(I)I"⟩, 10) := ⟨⟨by decide +kernel, by decide +kernel⟩, List.mem_of_getElem? (i := 18) (by decide +kernel), List.mem_of_getElem? (i := 471) (by decide +kernel), List.mem_of_getElem? (i := 472) (by decide +kernel)⟩
theorem lw_p9 : lw_okq (⟨"ReadSide", "failOverdue", "()V"⟩, 10) := ⟨⟨by decide +kernel, by decide +kernel⟩, List.mem_of_getElem? (i := 18) (by decide +kernel), List.mem_of_getElem? (i := 475) (by decide +kernel), List.mem_of_getElem? (i := 476) (by decide +kernel)⟩
theorem lw_p10 : lw_okq (⟨"ReadSide", "fail", "(LReadSide$Read;)V"⟩, 10) := ⟨⟨by decide +kernel, by decide +kernel⟩, List.mem_of_getElem? (i := 18) (by decide +kernel), List.mem_of_getElem? (i := 479) (by decide +kernel), List.mem_of_getElem? (i := 480) (by decide +kernel)⟩
theorem lw_p11 : lw_okq (⟨"ReadSide", "needQuestion", "(II)V"⟩, 10) := ⟨⟨by decide +kernel, by decide +kernel⟩, List.mem_of_getElem? (i := 18) (by decide +kernel), List.mem_of_getElem? (i := 530) (by decide +kernel), List.mem_of_getElem? (i := 531) (by decide +kernel)⟩
theorem lw_p12 : lw_okq (⟨"ReadSide", "needToken", "(J)V"⟩, 10) := ⟨⟨by decide +kernel, by decide +kernel⟩, List.mem_of_getElem? (i := 18) (by decide +kernel), List.mem_of_getElem? (i := 534) (by decide +kernel), List.mem_of_getElem? (i := 535) (by decide +kernel)⟩
theorem lw_p13 : lw_okq (⟨"ReadSide", "firstThatMay", "(LReadSide$Read;)I"⟩, 10) := ⟨⟨by decide +kernel, by decide +kernel⟩, List.mem_of_getElem? (i := 18) (by decide +kernel), List.mem_of_getElem? (i := 591) (by decide +kernel), List.mem_of_getElem? (i := 592) (by decide +kernel)⟩
theorem lw_p14 : lw_okq (⟨"ReadSideModel", "look", "(I)V"⟩, 39) := ⟨⟨by decide +kernel, by decide +kernel⟩, List.mem_of_getElem? (i := 661) (by decide +kernel), List.mem_of_getElem? (i := 802) (by decide +kernel), List.mem_of_getElem? (i := 803) (by decide +kernel)⟩
theorem lw_p15 : lw_okq (⟨"ReadSideModel", "may", "(II)Z"⟩, 39) := ⟨⟨by decide +kernel, by decide +kernel⟩, List.mem_of_getElem? (i := 661) (by decide +kernel), List.mem_of_getElem? (i := 806) (by decide +kernel), List.mem_of_getElem? (i := 807) (by decide +kernel)⟩
def lw_privs_1 : List (MethodName × Nat) := [(⟨"ReadSide", "leastKept", "(I)I"⟩, 10), (⟨"java/lang/Throwable", "fillInStackTrace", "(I)Ljava/lang/Throwable;"⟩, 6), (⟨"ReadSide", "lookAtWaiting", "(I)V"⟩, 10), (⟨"ReadSide", "mayAnswer", "(LReadSide$Replica;LReadSide$Read;)Z"⟩, 10), (⟨"ReadSide", "leastFor", "(LReadSide$Read;I)I"⟩, 10), (⟨"ReadSide", "answer", "(LReadSide$Read;I)V"⟩, 10), (⟨"ReadSide", "forgetEnded", "()V"⟩, 10), (⟨"ReadSide", "takeStep", "(II)I"⟩, 10), (⟨"ReadSide", "takeStepsOfTick", "(I)I"⟩, 10), (⟨"ReadSide", "failOverdue", "()V"⟩, 10), (⟨"ReadSide", "fail", "(LReadSide$Read;)V"⟩, 10), (⟨"ReadSide", "needQuestion", "(II)V"⟩, 10), (⟨"ReadSide", "needToken", "(J)V"⟩, 10), (⟨"ReadSide", "firstThatMay", "(LReadSide$Read;)I"⟩, 10), (⟨"ReadSideModel", "look", "(I)V"⟩, 39), (⟨"ReadSideModel", "may", "(II)Z"⟩, 39)]
theorem lw_r1 : ∀ q ∈ lw_privs_1, lw_okq q := List.forall_mem_cons.mpr ⟨lw_p0, List.forall_mem_cons.mpr ⟨lw_p1, List.forall_mem_cons.mpr ⟨lw_p2, List.forall_mem_cons.mpr ⟨lw_p3, List.forall_mem_cons.mpr ⟨lw_p4, List.forall_mem_cons.mpr ⟨lw_p5, List.forall_mem_cons.mpr ⟨lw_p6, List.forall_mem_cons.mpr ⟨lw_p7, List.forall_mem_cons.mpr ⟨lw_p8, List.forall_mem_cons.mpr ⟨lw_p9, List.forall_mem_cons.mpr ⟨lw_p10, List.forall_mem_cons.mpr ⟨lw_p11, List.forall_mem_cons.mpr ⟨lw_p12, List.forall_mem_cons.mpr ⟨lw_p13, List.forall_mem_cons.mpr ⟨lw_p14, List.forall_mem_cons.mpr ⟨lw_p15, fun _ h => absurd h List.not_mem_nil⟩⟩⟩⟩⟩⟩⟩⟩⟩⟩⟩⟩⟩⟩⟩⟩
theorem lw_p16 : lw_okq (⟨"ReadSideModel", "covers", "([III)Z"⟩, 39) := ⟨⟨by decide +kernel, by decide +kernel⟩, List.mem_of_getElem? (i := 661) (by decide +kernel), List.mem_of_getElem? (i := 810) (by decide +kernel), List.mem_of_getElem? (i := 811) (by decide +kernel)⟩
theorem lw_p17 : lw_okq (⟨"ReadSideModel", "answer", "(II)V"⟩, 39) := ⟨⟨by decide +kernel, by decide +kernel⟩, List.mem_of_getElem? (i := 661) (by decide +kernel), List.mem_of_getElem? (i := 814) (by decide +kernel), List.mem_of_getElem? (i := 815) (by decide +kernel)⟩
theorem lw_p18 : lw_okq (⟨"ReadSideModel", "tell", "(III)J"⟩, 39) := ⟨⟨by decide +kernel, by decide +kernel⟩, List.mem_of_getElem? (i := 661) (by decide +kernel), List.mem_of_getElem? (i := 818) (by decide +kernel), List.mem_of_getElem? (i := 819) (by decide +kernel)⟩
theorem lw_p19 : lw_okq (⟨"ReadSideModel", "ranked", "(II)I"⟩, 39) := ⟨⟨by decide +kernel, by decide +kernel⟩, List.mem_of_getElem? (i := 661) (by decide +kernel), List.mem_of_getElem? (i := 822) (by decide +kernel), List.mem_of_getElem? (i := 823) (by decide +kernel)⟩
theorem lw_p20 : lw_okq (⟨"ReadSideModel", "isReplica", "(I)Z"⟩, 39) := ⟨⟨by decide +kernel, by decide +kernel⟩, List.mem_of_getElem? (i := 661) (by decide +kernel), List.mem_of_getElem? (i := 843) (by decide +kernel), List.mem_of_getElem? (i := 844) (by decide +kernel)⟩
theorem lw_p21 : lw_okq (⟨"ReadSideModel", "isPart", "(I)Z"⟩, 39) := ⟨⟨by decide +kernel, by decide +kernel⟩, List.mem_of_getElem? (i := 661) (by decide +kernel), List.mem_of_getElem? (i := 859) (by decide +kernel), List.mem_of_getElem? (i := 860) (by decide +kernel)⟩
theorem lw_p22 : lw_okq (⟨"ReadSideModel", "advance", "(II)I"⟩, 39) := ⟨⟨by decide +kernel, by decide +kernel⟩, List.mem_of_getElem? (i := 661) (by decide +kernel), List.mem_of_getElem? (i := 863) (by decide +kernel), List.mem_of_getElem? (i := 864) (by decide +kernel)⟩
theorem lw_p23 : lw_okq (⟨"ReadSideModel", "take", "(II)V"⟩, 39) := ⟨⟨by decide +kernel, by decide +kernel⟩, List.mem_of_getElem? (i := 661) (by decide +kernel), List.mem_of_getElem? (i := 867) (by decide +kernel), List.mem_of_getElem? (i := 868) (by decide +kernel)⟩
theorem lw_p24 : lw_okq (⟨"ReadSideModel", "tick", "()I"⟩, 39) := ⟨⟨by decide +kernel, by decide +kernel⟩, List.mem_of_getElem? (i := 661) (by decide +kernel), List.mem_of_getElem? (i := 885) (by decide +kernel), List.mem_of_getElem? (i := 886) (by decide +kernel)⟩
theorem lw_p25 : lw_okq (⟨"ReadSideModel", "fail", "(I)V"⟩, 39) := ⟨⟨by decide +kernel, by decide +kernel⟩, List.mem_of_getElem? (i := 661) (by decide +kernel), List.mem_of_getElem? (i := 889) (by decide +kernel), List.mem_of_getElem? (i := 890) (by decide +kernel)⟩
theorem lw_p26 : lw_okq (⟨"ReadSideModel", "copy", "(II)V"⟩, 39) := ⟨⟨by decide +kernel, by decide +kernel⟩, List.mem_of_getElem? (i := 661) (by decide +kernel), List.mem_of_getElem? (i := 901) (by decide +kernel), List.mem_of_getElem? (i := 902) (by decide +kernel)⟩
theorem lw_p27 : lw_okq (⟨"ReadSideModel", "sum", "(I)I"⟩, 39) := ⟨⟨by decide +kernel, by decide +kernel⟩, List.mem_of_getElem? (i := 661) (by decide +kernel), List.mem_of_getElem? (i := 905) (by decide +kernel), List.mem_of_getElem? (i := 906) (by decide +kernel)⟩
theorem lw_p28 : lw_okq (⟨"ReadSideModel", "isToken", "(J)Z"⟩, 39) := ⟨⟨by decide +kernel, by decide +kernel⟩, List.mem_of_getElem? (i := 661) (by decide +kernel), List.mem_of_getElem? (i := 921) (by decide +kernel), List.mem_of_getElem? (i := 922) (by decide +kernel)⟩
theorem lw_p29 : lw_okq (⟨"ReadSideModel", "isQuestion", "(II)Z"⟩, 39) := ⟨⟨by decide +kernel, by decide +kernel⟩, List.mem_of_getElem? (i := 661) (by decide +kernel), List.mem_of_getElem? (i := 933) (by decide +kernel), List.mem_of_getElem? (i := 934) (by decide +kernel)⟩
theorem lw_p30 : lw_okq (⟨"ReadSideModel", "waiting", "()I"⟩, 39) := ⟨⟨by decide +kernel, by decide +kernel⟩, List.mem_of_getElem? (i := 661) (by decide +kernel), List.mem_of_getElem? (i := 937) (by decide +kernel), List.mem_of_getElem? (i := 938) (by decide +kernel)⟩
def lw_privs_2 : List (MethodName × Nat) := [(⟨"ReadSideModel", "covers", "([III)Z"⟩, 39), (⟨"ReadSideModel", "answer", "(II)V"⟩, 39), (⟨"ReadSideModel", "tell", "(III)J"⟩, 39), (⟨"ReadSideModel", "ranked", "(II)I"⟩, 39), (⟨"ReadSideModel", "isReplica", "(I)Z"⟩, 39), (⟨"ReadSideModel", "isPart", "(I)Z"⟩, 39), (⟨"ReadSideModel", "advance", "(II)I"⟩, 39), (⟨"ReadSideModel", "take", "(II)V"⟩, 39), (⟨"ReadSideModel", "tick", "()I"⟩, 39), (⟨"ReadSideModel", "fail", "(I)V"⟩, 39), (⟨"ReadSideModel", "copy", "(II)V"⟩, 39), (⟨"ReadSideModel", "sum", "(I)I"⟩, 39), (⟨"ReadSideModel", "isToken", "(J)Z"⟩, 39), (⟨"ReadSideModel", "isQuestion", "(II)Z"⟩, 39), (⟨"ReadSideModel", "waiting", "()I"⟩, 39)]
theorem lw_r2 : ∀ q ∈ lw_privs_2, lw_okq q := List.forall_mem_cons.mpr ⟨lw_p16, List.forall_mem_cons.mpr ⟨lw_p17, List.forall_mem_cons.mpr ⟨lw_p18, List.forall_mem_cons.mpr ⟨lw_p19, List.forall_mem_cons.mpr ⟨lw_p20, List.forall_mem_cons.mpr ⟨lw_p21, List.forall_mem_cons.mpr ⟨lw_p22, List.forall_mem_cons.mpr ⟨lw_p23, List.forall_mem_cons.mpr ⟨lw_p24, List.forall_mem_cons.mpr ⟨lw_p25, List.forall_mem_cons.mpr ⟨lw_p26, List.forall_mem_cons.mpr ⟨lw_p27, List.forall_mem_cons.mpr ⟨lw_p28, List.forall_mem_cons.mpr ⟨lw_p29, List.forall_mem_cons.mpr ⟨lw_p30, fun _ h => absurd h List.not_mem_nil⟩⟩⟩⟩⟩⟩⟩⟩⟩⟩⟩⟩⟩⟩⟩
def lw_privs : List (MethodName × Nat) := lw_privs_1 ++ (lw_privs_2)
def lw_tbl : List Cond := k2_sels lw_privs ++ tables_1
theorem lw_privs_ok : ∀ q ∈ lw_privs, lw_okq q := by
  show ∀ q ∈ lw_privs_1 ++ (lw_privs_2), lw_okq q
  exact List.forall_mem_append.mpr ⟨lw_r1, lw_r2⟩
end
section
section VXA
section Ends
variable {p : Program} {l : Launch} {e : Env} {R : Room} {s : State} {m : MethodId} {args : Array Value} {below : List Frame} {meth : Method} {c : Code} {H : Heap} {locs : List Loc} {cells slots : Nat} {Q : State → Prop}
variable {mc ms : Nat} {free : Addr → Prop} {A0 A1 : Nat → Prop} {H0 : Heap} {a : Array Value} {ls : Array Slot} {st0 rest : List Value}
variable {Qc : Array Value → State → Outcome → State → Prop} {XC : String → State → State → Prop}
theorem vx_frame {U : State} {k n : Nat} (h : s.sameButNew ({ U with vm := s.vm } : State) locs k n) : s.heap.size ≤ U.heap.size ∧ ∀ q : Nat, q < s.heap.size → (∀ z ∈ locs, z.base ≠ q) → U.heap[q]? = s.heap[q]? := by
  obtain ⟨-, h2, -, -, -, h6⟩ := h
  refine ⟨h2, fun q hq hz => ?_⟩
  obtain ⟨c9, e1, e2, e3, e4⟩ := h6 q _ (Array.getElem?_eq_getElem hq)
  have hs : c9.slots = (s.heap[q]).slots := Array.ext_getElem? fun i => e4 i fun hm => hz _ hm rfl
  have h9 : c9 = s.heap[q] := by
    rw [hs] at e2
    exact e2
  have e5 : U.heap[q]? = some c9 := e1
  rw [e5, h9, Array.getElem?_eq_getElem hq]
/-- the words of a throw but the four that speak of the heap -/
def vx_no (w : Cond) : Bool := decide (w ≠ .isRef (.static Bundle.tN "UNASSIGNED_STACK" Bundle.steD)) && decide (w ≠ .isRef (.static Bundle.tN "SUPPRESSED_SENTINEL" Bundle.listD)) && decide (w ≠ .laysStatic Bundle.tN "UNASSIGNED_STACK" Bundle.steD) && decide (w ≠ .laysStatic Bundle.tN "SUPPRESSED_SENTINEL" Bundle.listD)
def vx_at0 (own : String) (ic : Nat) (X : String) (names : List String) : List Cond := (Bundle.ownAtoms0 own ic X names).filter vx_no
def vx_atS (own : String) (ic : Nat) (X : String) (names : List String) : List Cond := (Bundle.ownAtoms own ic X names).filter vx_no
/-- a word that the tables alone decide, or a good one -/
def vx_ot (w : Cond) : Bool := w.onTables || goodWord w
theorem vx_ot_at {args a' : Array Value} {s U : State} {w : Cond} (hW : s.WarmedH U.vm) (hvm : s.vm = U.vm) (hg : vx_ot w = true) (h : w.before args s = true) : w.before a' U = true := by
  simp only [vx_ot, Bool.or_eq_true] at hg
  rcases hg with hg | hg
  · exact va_tabs hg hvm h
  · exact word_at hW (good_of_word hg) h
/-- a list's words: the good ones out of the method's own list, the others by premises of their own -/
theorem vx_hat {args : Array Value} {s : State} {L B : List Cond} (h1 : ∀ w ∈ L.filter goodWord, w.before args s = true) (h2 : ∀ w ∈ L.filter (fun w => !goodWord w), w ∈ B) (h3 : ∀ w ∈ B, w.before args s = true) : ∀ w ∈ L, w.before args s = true := by
  intro w hw
  by_cases g : goodWord w = true
  · exact h1 w (List.mem_filter.mpr ⟨hw, g⟩)
  · refine h3 w (h2 w (List.mem_filter.mpr ⟨hw, ?_⟩))
    show (!goodWord w) = true
    cases hgw : goodWord w
    · rfl
    · exact absurd hgw g
theorem vx_c {args : Array Value} {s : State} {w : Cond} {B : List Cond} (h : w.before args s = true) (t : ∀ w ∈ B, w.before args s = true) : ∀ w' ∈ w :: B, w'.before args s = true := fun w' h' => (List.mem_cons.mp h').elim (fun e => by rw [e]; exact h) (t w')
theorem vx_n {args : Array Value} {s : State} : ∀ w ∈ ([] : List Cond), w.before args s = true := fun _ h => nomatch h
theorem vx_own {args : Array Value} {s : State} {L : List Cond} (h1 : ∀ w ∈ L.filter vx_no, w.before args s = true)
    (hU : (Cond.isRef (.static Bundle.tN "UNASSIGNED_STACK" Bundle.steD)).before args s = true) (hN : (Cond.isRef (.static Bundle.tN "SUPPRESSED_SENTINEL" Bundle.listD)).before args s = true)
    (lU : (Cond.laysStatic Bundle.tN "UNASSIGNED_STACK" Bundle.steD).before args s = true) (lN : (Cond.laysStatic Bundle.tN "SUPPRESSED_SENTINEL" Bundle.listD).before args s = true) : ∀ w ∈ L, w.before args s = true := by
  intro w hw
  by_cases e1 : w = .isRef (.static Bundle.tN "UNASSIGNED_STACK" Bundle.steD)
  · rw [e1]; exact hU
  · by_cases e2 : w = .isRef (.static Bundle.tN "SUPPRESSED_SENTINEL" Bundle.listD)
    · rw [e2]; exact hN
    · by_cases e3 : w = .laysStatic Bundle.tN "UNASSIGNED_STACK" Bundle.steD
      · rw [e3]; exact lU
      · by_cases e4 : w = .laysStatic Bundle.tN "SUPPRESSED_SENTINEL" Bundle.listD
        · rw [e4]; exact lN
        · exact h1 w (List.mem_filter.mpr ⟨hw, by unfold vx_no; rw [decide_eq_true e1, decide_eq_true e2, decide_eq_true e3, decide_eq_true e4]; rfl⟩)
/-- where a static field lies, its class's statics cell in H -/
def vx_L (C n d : String) (A : Nat → Prop) (U : State) (H : Heap) : Prop := ∃ (c : ClassId) (k : Class) (i : Nat) (f : Field) (a : Nat) (cell : Cell), U.vm.findClass C = some c ∧ U.fieldFound? C n d = some (c, k, i, f) ∧ f.isStatic = true ∧ k.statics = some a ∧ H[a]? = some cell ∧ cell.vm.isStatics = true ∧ cell.cls = c ∧ f.slot < cell.slots.size ∧ k.staticTypes[f.slot]? = some f.type ∧ ¬ A a
theorem vx_L.moved {C n d : String} {A : Nat → Prop} {u U : State} {H : Heap} (hvm : u.vm.Alike U.vm) (h : vx_L C n d A u H) : vx_L C n d A U H := by
  obtain ⟨c, k, i, f, a, cell, h1, h2, h3, h4, h5, h6, h7, h8, h9, h10⟩ := h
  obtain ⟨k', hi', he⟩ := State.fieldFound?_setVm hvm h2
  exact ⟨c, k', i, f, a, cell, by rw [hvm.findClass]; exact h1, hi', h3, by rw [he]; exact h4, h5, h6, h7, h8, by rw [he]; exact h9, h10⟩
theorem vx_L.kept {C n d : String} {A : Nat → Prop} {U : State} {H H1 : Heap} (h : vx_L C n d A U H) (hq : ∀ a : Nat, a < H.size → ¬ A a → H1[a]? = H[a]?) : vx_L C n d A U H1 := by
  obtain ⟨c, k, i, f, a, cell, h1, h2, h3, h4, h5, h6, h7, h8, h9, h10⟩ := h
  exact ⟨c, k, i, f, a, cell, h1, h2, h3, h4, by rw [hq a (Array.getElem?_eq_some_iff.mp h5).1 h10]; exact h5, h6, h7, h8, h9, h10⟩
theorem vx_L.narrow {C n d : String} {A B : Nat → Prop} {U : State} {H : Heap} (h : vx_L C n d A U H) (hAB : ∀ q, B q → A q) : vx_L C n d B U H := by
  obtain ⟨c, k, i, f, a, cell, h1, h2, h3, h4, h5, h6, h7, h8, h9, h10⟩ := h
  exact ⟨c, k, i, f, a, cell, h1, h2, h3, h4, h5, h6, h7, h8, h9, fun z => h10 (hAB _ z)⟩
theorem vx_L.word {C n d : String} {A : Nat → Prop} {s : State} {args : Array Value} (h : vx_L C n d A s s.heap) : (Cond.laysStatic C n d).before args s = true := by
  obtain ⟨c, k, i, f, a, cell, h1, h2, h3, h4, h5, h6, h7, h8, h9, -⟩ := h
  show (Cond.laysStatic C n d).holds args s none s [] = true
  exact Cond.laysStatic_of h1 h2 h3 h4 h5 h6 h7 h8 h9
/-- .. and what it holds: null or some reference -/
def vx_Zq (C n d : String) (A : Nat → Prop) (U : State) (H : Heap) : Prop := va_Zq C n d A U H ∧ vx_L C n d A U H
theorem vx_Zq.moved {C n d : String} {A : Nat → Prop} {u U : State} {H : Heap} (hvm : u.vm.Alike U.vm) (h : vx_Zq C n d A u H) : vx_Zq C n d A U H := ⟨va_Zq.moved hvm h.1, vx_L.moved hvm h.2⟩
theorem vx_Zq.kept {C n d : String} {A : Nat → Prop} {U : State} {H H1 : Heap} (h : vx_Zq C n d A U H) (hq : ∀ a : Nat, a < H.size → ¬ A a → H1[a]? = H[a]?) : vx_Zq C n d A U H1 := ⟨va_Zq.kept h.1 hq, vx_L.kept h.2 hq⟩
theorem vx_Zq.narrow {C n d : String} {A B : Nat → Prop} {U : State} {H : Heap} (h : vx_Zq C n d A U H) (hAB : ∀ q, B q → A q) : vx_Zq C n d B U H := ⟨va_Zq.narrow h.1 hAB, vx_L.narrow h.2 hAB⟩
theorem vx_Zqof {args : Array Value} {s : State} {C n d : String} {A : Nat → Prop} (hl : (Cond.laysStatic C n d).before args s = true) (hini : (Cond.initialized C).before args s = true) (h : (Cond.isRef (.static C n d)).before args s = true) (hA : ∀ a : Nat, a < s.heap.size → ¬ A a) : vx_Zq C n d A s s.heap := by
  refine ⟨va_Zqof hl hini h hA, ?_⟩
  obtain ⟨c, k, i, f, a, cell, h1, h2, h3, h4, h5, h6, h7, h8, h9⟩ := Cond.laysStatic_spec hl
  exact ⟨c, k, i, f, a, cell, h1, h2, h3, h4, h5, h6, h7, h8, h9, hA a (Array.getElem?_eq_some_iff.mp h5).1⟩
theorem vx_isRef {C n d : String} {v : Value} {A : Nat → Prop} {s : State} {args : Array Value} (h : va_Z C n d v A s s.heap) (hv : v.isRef = true) : (Cond.isRef (.static C n d)).before args s = true := by
  obtain ⟨cf, kf, fi, f, a, cell, h1, h2, h3, h4, h5, h6, h7, -⟩ := h
  have he : (Term.static C n d).eval args s none [] s = some v := by
    simp [Term.eval, State.fieldNamed?, h1, h2, h4, h5, h6, h7]
  simp only [Cond.before, Cond.holds, Cond.value, he]
  cases v <;> simp_all [Value.isRef]
theorem vx_isRefq {C n d : String} {A : Nat → Prop} {s : State} {args : Array Value} (h : va_Zq C n d A s s.heap) : (Cond.isRef (.static C n d)).before args s = true := by
  rcases h with h | ⟨t, h⟩
  · exact vx_isRef h rfl
  · exact vx_isRef h rfl
/-- the same frame, seen from here: as if the method were called anew in this heap -/
theorem vx_rebase {T : State} (X : Stand p l e R s m args below meth c T locs cells slots) {R' : Room} (hf : R'.frames ≤ R.frames) (hl : R'.locals ≤ R.locals) (hc : cells + R'.cells ≤ R.cells) (hs : slots + R'.slots ≤ R.slots) :
    Stand p l e R' ((T.setVm s.vm).setFrames (.invoking m args :: below)) m args below meth c T [] 0 0 := by
  have htop : (T.setVm s.vm).topJava?.isSome := X.here.top
  have hF : ((T.setVm s.vm).setFrames (.invoking m args :: below)).frames = .invoking m args :: below := State.frames_setFrames _ (State.cur_lt_of_top htop)
  obtain ⟨g₀, hg0⟩ := Option.isSome_iff_exists.mp htop
  obtain ⟨r, hr⟩ := State.topJava?_eq_some.mp hg0
  have hl9 : e.platform.stackLimits (T.setVm s.vm).me = e.platform.stackLimits s.me := X.limits
  have hb9 : (T.setVm s.vm).me.stackBytes = s.me.stackBytes := X.bytes
  refine ⟨X.admits, X.cas, X.clock, hF, ?_, X.hears, X.method, X.code, X.here, X.tail, X.warmed, ?_, ?_, ?_⟩
  · have h := X.room
    have hU : ((T.setVm s.vm).setFrames (.invoking m args :: below)).localsInUse = s.localsInUse := by
      rw [State.localsInUse_invoking hF (meth := meth) (c := c) X.method X.code, State.localsInUse_invoking X.frames X.method X.code]
    simp only [State.hasRoom, Bool.and_eq_true, decide_eq_true_eq] at h ⊢
    obtain ⟨⟨⟨⟨h1, h2, h3, h4, h5, h6⟩, h7⟩, h8⟩, h9⟩ := h
    rw [X.frames, List.length_cons] at h2 h3
    have q1 := X.heapSize
    have q2 := X.used
    simp only [hF, hU, List.length_cons, State.stackLimits_setFrames, State.stackBytes_setFrames, hl9, hb9]
    refine ⟨⟨⟨⟨by omega, by omega, by omega, by omega, by omega, h6⟩, ?_⟩, ?_⟩, X.book⟩
    · show T.heap.size + R'.cells ≤ e.platform.maxCells
      omega
    · show T.slotsUsed + R'.slots ≤ e.platform.maxSlots
      omega
  · rw [State.stackLimits_setFrames]; rfl
  · rw [State.stackBytes_setFrames]; rfl
  · refine ⟨?_, Nat.le_refl _, Nat.le_refl _, ?_, ?_, fun a c9 h9 => ⟨c9, h9, rfl, rfl, fun _ _ => rfl⟩⟩
    · obtain ⟨t, ht, -⟩ := State.frames_cons hr
      show T.setVm s.vm = { ((T.setVm s.vm).setFrames (.invoking m args :: below)).setFrames (T.setVm s.vm).frames with heap := T.heap, slotsUsed := T.slotsUsed }
      rw [State.setFrames_setFrames, State.setFrames_self ht]
      rfl
    · show T.slotsUsed = T.slotsUsed + ((T.heap.toList.drop T.heap.size).map (·.slots.size)).sum
      rw [List.drop_eq_nil_of_le (Nat.le_of_eq Array.length_toList)]
      rfl
    · show ((T.heap.toList.drop T.heap.size).map (·.slots.size)).sum ≤ 0
      rw [List.drop_eq_nil_of_le (Nat.le_of_eq Array.length_toList)]
      exact Nat.le_refl _
end Ends
end VXA
/-! the search of a method's own table, where its classes may still be unresolved: a row passed, a row that takes it -/
theorem cx_go {Q : Handler → Pre} {E : CtlPost} {e : Env} {d : Bool} {acts : List Action} {s : State} {f : JFrame} {a : Addr} {x : ExceptionTableEntry} {t : List ExceptionTableEntry} {c : ClassId} {cell : Cell}
    (hx : covers x f.pc = true) (h0 : x.catchType ≠ 0) (hl : s.vm.ClassLinks e.platform f.method.cls x.catchType c) (hcell : s.heap[a]? = some cell) (hobj : ∀ k, cell.vm ≠ .statics k)
    (hk : ∃ k, s.vm.classes[cell.cls]? = some k) (hc : ∃ k, s.vm.classes[c]? = some k) :
    wp (findHandler.go f a (x :: t)) Q E e d acts s ↔
      if s.vm.assignable cell.cls c = true then Q (.found x.handlerPc) d acts (s.setVm (s.vm.noted f.method.cls x.catchType (.cls c)))
      else wp (findHandler.go f a t) Q E e d acts (s.setVm (s.vm.noted f.method.cls x.catchType (.cls c))) := by
  simp only [covers] at hx
  obtain ⟨g1, g2⟩ := (resolveClass_links e.toSetting hl).op (op := VmOp.resolveClass f.method.cls x.catchType) rfl
  have hal : s.vm.Alike (s.vm.noted f.method.cls x.catchType (.cls c)) := (Vm.Alike.refl s.vm).noted _ _ _
  obtain ⟨k1, hk1⟩ := hk
  obtain ⟨k2, hk2⟩ := hc
  obtain ⟨k1', hk1', -⟩ := hal.2.2 _ _ hk1
  obtain ⟨k2', hk2', -⟩ := hal.2.2 _ _ hk2
  have e1 : (s.vm.noted f.method.cls x.catchType (.cls c)).assignable cell.cls c = s.vm.assignable cell.cls c := by rw [hal.assignable]
  cases hv : s.vm.assignable cell.cls c <;> rw [hv] at e1 <;> simp [findHandler.go, hx, h0, g1, g2, hcell, hobj, hk1', hk2', e1, VmOp.dirties, VmOp.acts]
/-- a row ahead is passed: not at this pc, or its class doesn't take the object -/
def cx_pass (pl : Platform) (s0 : State) (d : ClassId) (pc : Nat) (thrown : ClassId) (y : ExceptionTableEntry) : Prop :=
  covers y pc = false ∨ (y.catchType ≠ 0 ∧ ∃ c, s0.vm.ClassLinks pl d y.catchType c ∧ s0.vm.assignable thrown c = false)
theorem cx_through {e : Env} {s0 : State} {f : JFrame} {a : Addr} {cell : Cell} (hobj : ∀ k, cell.vm ≠ .statics k) (hk0 : ∃ k, s0.vm.classes[cell.cls]? = some k)
    (x : ExceptionTableEntry) (rest : List ExceptionTableEntry) (hx : covers x f.pc = true) (h0 : x.catchType ≠ 0) {c : ClassId} (hl : s0.vm.ClassLinks e.platform f.method.cls x.catchType c) (hfit : s0.vm.assignable cell.cls c = true) :
    ∀ (pre : List ExceptionTableEntry) (S : State), s0.WarmedH S.vm → S.heap[a]? = some cell → (∀ y ∈ pre, cx_pass e.platform s0 f.method.cls f.pc cell.cls y) →
      ∃ vm', s0.WarmedH vm' ∧ ∀ (Q : Handler → Pre) (E : CtlPost) (d : Bool) (acts : List Action), wp (findHandler.go f a (pre ++ x :: rest)) Q E e d acts S ↔ Q (.found x.handlerPc) d acts (S.setVm vm') := by
  obtain ⟨k0, hk0⟩ := hk0
  intro pre
  induction pre with
  | nil =>
    intro S hW hcell _
    obtain ⟨k0', hk0', -⟩ := hW.alike.2.2 _ _ hk0
    obtain ⟨dk, _, _, kt, hd, _, _, _, _, hkt, _, hopen⟩ := hl.here
    obtain ⟨kt', hkt', -⟩ := hW.alike.2.2 _ _ hkt
    refine ⟨_, hW.noted hd hopen (State.rightAt_cls hl), fun Q E d acts => ?_⟩
    rw [List.nil_append, cx_go hx h0 (hW.classLinks hl) hcell hobj ⟨k0', hk0'⟩ ⟨kt', hkt'⟩, if_pos (by rw [hW.alike.assignable]; exact hfit)]
  | cons y ys ih =>
    intro S hW hcell hpass
    obtain ⟨k0', hk0', -⟩ := hW.alike.2.2 _ _ hk0
    have hrest : ∀ z ∈ ys, cx_pass e.platform s0 f.method.cls f.pc cell.cls z := fun z hz => hpass z (List.mem_cons_of_mem _ hz)
    by_cases hcov : covers y f.pc = true
    · rcases hpass y (List.mem_cons_self ..) with h | ⟨hy0, cy, hly, hno⟩
      · rw [h] at hcov; cases hcov
      · obtain ⟨dk, _, _, kt, hd, _, _, _, _, hkt, _, hopen⟩ := hly.here
        obtain ⟨kt', hkt', -⟩ := hW.alike.2.2 _ _ hkt
        obtain ⟨vm', hW', hq⟩ := ih (S.setVm (S.vm.noted f.method.cls y.catchType (.cls cy))) (hW.noted hd hopen (State.rightAt_cls hly)) hcell hrest
        refine ⟨vm', hW', fun Q E d acts => ?_⟩
        rw [List.cons_append, cx_go hcov hy0 (hW.classLinks hly) hcell hobj ⟨k0', hk0'⟩ ⟨kt', hkt'⟩, if_neg (by rw [hW.alike.assignable, hno]; decide)]
        exact hq Q E d acts
    · obtain ⟨vm', hW', hq⟩ := ih S hW hcell hrest
      refine ⟨vm', hW', fun Q E d acts => ?_⟩
      rw [List.cons_append, W.findHandler_go_skip (by simpa using hcov)]
      exact hq Q E d acts
/-- the object a is thrown over the frame g, a row of the method's table takes it: the walk goes on at the handler -/
theorem cx_caught {p : Program} {l : Launch} {e : Env} {R : Room} {s : State} {m : MethodId} {args : Array Value} {below : List Frame} {meth : Method} {c : Code} {T : State} {locs : List Loc} {cells slots : Nat}
    (X : Stand p l e R s m args below meth c T locs cells slots) (a : Addr) {g : JFrame} (hg : g.method = m) {cell : Cell} (hcell : T.heap[a]? = some cell) (hobj : cell.vm.isStatics = false)
    (hk0 : ∃ k, s.vm.classes[cell.cls]? = some k) (pre : List ExceptionTableEntry) (x : ExceptionTableEntry) (rest : List ExceptionTableEntry) (hsplit : c.exceptionTable.toList = pre ++ x :: rest)
    (hpass : ∀ y ∈ pre, cx_pass e.platform s m.cls g.pc cell.cls y) (hx : covers x g.pc = true) (h0 : x.catchType ≠ 0) {cc : ClassId} (hl : s.vm.ClassLinks e.platform m.cls x.catchType cc) (hfit : s.vm.assignable cell.cls cc = true) :
    ∃ vm', Stand p l e R s m args below meth c (T.setVm vm') locs cells slots ∧
      ∀ target, Steps p.tables e below ((T.setVm vm').setTop { g with pc := x.handlerPc, stack := [.ref a] }) target → Steps p.tables e below ((T.setTop g).pushFrame (.throwing a)) target := by
  subst hg
  obtain ⟨vm', hW', hq⟩ := cx_through (e := e) (s0 := s) (f := g) (a := a) (cell := cell) (VmData.ne_statics_of hobj) hk0 x rest hx h0 hl hfit pre ((T.setTop g).pushFrame (.throwing a)) X.warmed hcell hpass
  refine ⟨vm', X.noted hW', fun target hrest => ?_⟩
  have hfind : ∀ (Q : Handler → Pre) (E : CtlPost) (d : Bool) (acts : List Action), wp (findHandler g a) Q E e d acts ((T.setTop g).pushFrame (.throwing a)) ↔ Q (.found x.handlerPc) d acts (((T.setTop g).pushFrame (.throwing a)).setVm vm') := by
    intro Q E d acts
    have hm9 : ((T.setTop g).pushFrame (.throwing a)).vm.method? g.method = some meth := X.method'
    rw [W.findHandler_eq (meth := meth) (code := c) hm9 X.code, hsplit]
    exact hq Q E d acts
  have hcatch : ∀ r : List Frame, (stepThrowing e ((T.setTop g).pushFrame (.throwing a)) a (.java g :: r)).Is ((((T.setTop g).pushFrame (.throwing a)).setVm vm').setFrames (.java { g with pc := x.handlerPc, stack := [.ref a] } :: r)) [] := by
    intro r
    simp only [stepThrowing, searchFrame, vmDo]
    generalize hr : Sem.go _ e false [] _ = res
    obtain ⟨as, rfl, ha⟩ := Sem.eq_ok_of hr (a := Handler.found x.handlerPc) (s' := ((T.setTop g).pushFrame (.throwing a)).setVm vm') (acts' := []) (by simp [hfind _ _ _ _])
    exact ⟨rfl, ha⟩
  have h := X.here
  obtain ⟨hgo, hw⟩ := h.throwing a
  refine Steps.head hgo hw ?_
  rw [stepThread_throwing (frames_entered h.top _), (hcatch _).1]
  obtain ⟨g0, hg0⟩ := Option.isSome_iff_exists.mp h.top
  obtain ⟨r, hr⟩ := State.topJava?_eq_some.mp hg0
  have hr' : (T.setVm vm').frames = .java g0 :: r := hr
  rw [State.setTop_of_frames _ hr'] at hrest
  have q1 : ∀ (u : State) (F G : List Frame), ((u.setFrames F).setVm vm').setFrames G = (u.setVm vm').setFrames G := by
    intro u F G
    show ((u.setVm vm').setFrames F).setFrames G = _
    rw [State.setFrames_setFrames]
  rw [hr, List.tail_cons, State.pushFrame, q1, State.setTop_of_frames _ hr, q1]
  exact hrest
end
section
def RX0 : String := "ReadSide$Command"
def TX0 : u_T := fun k => match k with
  | 0 => ("ReadSide$Command", "kind", "I", true)
  | 1 => ("ReadSide$Command", "item", "I", true)
  | 2 => ("ReadSide$Command", "customer", "I", true)
  | 3 => ("ReadSide$Command", "amount", "I", true)
  | _ => ("ReadSide$Command", "needs", "[I", true)
def tyX0 : Nat → FieldType := fun k => match k with
  | 0 => .int
  | 1 => .int
  | 2 => .int
  | 3 => .int
  | _ => .array .int
abbrev wsX00 : List Cond := u_ws RX0 TX0 5
theorem nmX0 : ∀ a, a < 5 → ∀ b, b < 5 → a ≠ b → (TX0 a).2.1 ≠ (TX0 b).2.1 := by decide +kernel
theorem tyX0_ok : ∀ k, k < 5 → parseFieldDescriptor (TX0 k).2.2.1 = some (tyX0 k) := by decide +kernel
abbrev cX0_init : ByteArray := prog_2_method_1_code
def yX0_init : MethodName := ⟨RX0, "<init>", "(IIII[I)V"⟩
def RX1 : String := "ReadSide$Log"
def TX1 : u_T := fun k => match k with
  | 0 => ("ReadSide$Log", "commands", "[LReadSide$Command;", true)
  | 1 => ("ReadSide$Log", "end", "I", false)
  | _ => ("ReadSide$Log", "trimmed", "I", false)
def tyX1 : Nat → FieldType := fun k => match k with
  | 0 => .array (.object "ReadSide$Command")
  | 1 => .int
  | _ => .int
abbrev wsX10 : List Cond := u_ws RX1 TX1 3
theorem nmX1 : ∀ a, a < 3 → ∀ b, b < 3 → a ≠ b → (TX1 a).2.1 ≠ (TX1 b).2.1 := by decide +kernel
theorem tyX1_ok : ∀ k, k < 3 → parseFieldDescriptor (TX1 k).2.2.1 = some (tyX1 k) := by decide +kernel
abbrev cX1_init : ByteArray := prog_3_method_1_code
def yX1_init : MethodName := ⟨RX1, "<init>", "()V"⟩
abbrev cX1_commandAt : ByteArray := prog_3_method_2_code
def yX1_commandAt : MethodName := ⟨RX1, "commandAt", "(I)LReadSide$Command;"⟩
abbrev cX1_append : ByteArray := prog_3_method_3_code
def yX1_append : MethodName := ⟨RX1, "append", "(LReadSide$Command;)V"⟩
abbrev cX1_dropTo : ByteArray := prog_3_method_4_code
def yX1_dropTo : MethodName := ⟨RX1, "dropTo", "(I)I"⟩
def RX2 : String := "ReadSide$Read"
def TX2 : u_T := fun k => match k with
  | 0 => ("ReadSide$Read", "session", "I", true)
  | 1 => ("ReadSide$Read", "stale", "I", true)
  | 2 => ("ReadSide$Read", "deadline", "I", true)
  | 3 => ("ReadSide$Read", "kind", "I", true)
  | 4 => ("ReadSide$Read", "a", "I", true)
  | 5 => ("ReadSide$Read", "token", "J", true)
  | 6 => ("ReadSide$Read", "state", "I", false)
  | 7 => ("ReadSide$Read", "replica", "I", false)
  | 8 => ("ReadSide$Read", "endTime", "I", false)
  | 9 => ("ReadSide$Read", "answer", "J", false)
  | _ => ("ReadSide$Read", "answeredAt", "J", false)
def tyX2 : Nat → FieldType := fun k => match k with
  | 0 => .int
  | 1 => .int
  | 2 => .int
  | 3 => .int
  | 4 => .int
  | 5 => .long
  | 6 => .int
  | 7 => .int
  | 8 => .int
  | 9 => .long
  | _ => .long
abbrev wsX20 : List Cond := u_ws RX2 TX2 11
theorem nmX2 : ∀ a, a < 11 → ∀ b, b < 11 → a ≠ b → (TX2 a).2.1 ≠ (TX2 b).2.1 := by decide +kernel
theorem tyX2_ok : ∀ k, k < 11 → parseFieldDescriptor (TX2 k).2.2.1 = some (tyX2 k) := by decide +kernel
abbrev cX2_init : ByteArray := prog_4_method_1_code
def yX2_init : MethodName := ⟨RX2, "<init>", "(IJIIII)V"⟩
def RX3 : String := "ReadSide$Replica"
def TX3 : u_T := fun k => match k with
  | 0 => ("ReadSide$Replica", "state", "LReadSide$State;", true)
  | 1 => ("ReadSide$Replica", "keptState", "LReadSide$State;", true)
  | 2 => ("ReadSide$Replica", "at", "[I", true)
  | 3 => ("ReadSide$Replica", "kept", "[I", true)
  | 4 => ("ReadSide$Replica", "speed", "I", false)
  | 5 => ("ReadSide$Replica", "nextPartition", "I", false)
  | _ => ("ReadSide$Replica", "isUp", "Z", false)
def tyX3 : Nat → FieldType := fun k => match k with
  | 0 => .object "ReadSide$State"
  | 1 => .object "ReadSide$State"
  | 2 => .array .int
  | 3 => .array .int
  | 4 => .int
  | 5 => .int
  | _ => .boolean
abbrev wsX30 : List Cond := u_ws RX3 TX3 7
theorem nmX3 : ∀ a, a < 7 → ∀ b, b < 7 → a ≠ b → (TX3 a).2.1 ≠ (TX3 b).2.1 := by decide +kernel
theorem tyX3_ok : ∀ k, k < 7 → parseFieldDescriptor (TX3 k).2.2.1 = some (tyX3 k) := by decide +kernel
abbrev cX3_init : ByteArray := prog_5_method_1_code
def yX3_init : MethodName := ⟨RX3, "<init>", "()V"⟩
abbrev cX3_keep : ByteArray := prog_5_method_2_code
def yX3_keep : MethodName := ⟨RX3, "keep", "()V"⟩
abbrev cX3_comeAgain : ByteArray := prog_5_method_3_code
def yX3_comeAgain : MethodName := ⟨RX3, "comeAgain", "()V"⟩
def RX4 : String := "ReadSide$Session"
def TX4 : u_T := fun k => match k with
  | 0 => ("ReadSide$Session", "wrote", "[I", true)
  | 1 => ("ReadSide$Session", "saw", "[I", true)
  | 2 => ("ReadSide$Session", "mode", "I", false)
  | _ => ("ReadSide$Session", "home", "I", false)
def tyX4 : Nat → FieldType := fun k => match k with
  | 0 => .array .int
  | 1 => .array .int
  | 2 => .int
  | _ => .int
abbrev wsX40 : List Cond := u_ws RX4 TX4 4
theorem nmX4 : ∀ a, a < 4 → ∀ b, b < 4 → a ≠ b → (TX4 a).2.1 ≠ (TX4 b).2.1 := by decide +kernel
theorem tyX4_ok : ∀ k, k < 4 → parseFieldDescriptor (TX4 k).2.2.1 = some (tyX4 k) := by decide +kernel
abbrev cX4_init : ByteArray := prog_6_method_1_code
def yX4_init : MethodName := ⟨RX4, "<init>", "()V"⟩
abbrev cX4_needsNow : ByteArray := prog_6_method_2_code
def yX4_needsNow : MethodName := ⟨RX4, "needsNow", "()[I"⟩
abbrev cX4_see : ByteArray := prog_6_method_3_code
def yX4_see : MethodName := ⟨RX4, "see", "([I)V"⟩
def RX5 : String := "ReadSide$State"
def TX5 : u_T := fun k => match k with
  | 0 => ("ReadSide$State", "stock", "[I", true)
  | 1 => ("ReadSide$State", "reserved", "[I", true)
  | 2 => ("ReadSide$State", "sold", "[I", true)
  | 3 => ("ReadSide$State", "price", "[I", true)
  | 4 => ("ReadSide$State", "paid", "[J", true)
  | 5 => ("ReadSide$State", "refusals", "[I", true)
  | _ => ("ReadSide$State", "holds", "[I", true)
def tyX5 : Nat → FieldType := fun k => match k with
  | 0 => .array .int
  | 1 => .array .int
  | 2 => .array .int
  | 3 => .array .int
  | 4 => .array .long
  | 5 => .array .int
  | _ => .array .int
abbrev wsX50 : List Cond := u_ws RX5 TX5 7
theorem nmX5 : ∀ a, a < 7 → ∀ b, b < 7 → a ≠ b → (TX5 a).2.1 ≠ (TX5 b).2.1 := by decide +kernel
theorem tyX5_ok : ∀ k, k < 7 → parseFieldDescriptor (TX5 k).2.2.1 = some (tyX5 k) := by decide +kernel
abbrev cX5_init : ByteArray := prog_7_method_1_code
def yX5_init : MethodName := ⟨RX5, "<init>", "()V"⟩
abbrev cX5_becomeLike : ByteArray := prog_7_method_2_code
def yX5_becomeLike : MethodName := ⟨RX5, "becomeLike", "(LReadSide$State;)V"⟩
abbrev cX5_take : ByteArray := prog_7_method_3_code
def yX5_take : MethodName := ⟨RX5, "take", "(LReadSide$Command;)V"⟩
abbrev cX5_receive : ByteArray := prog_7_method_4_code
def yX5_receive : MethodName := ⟨RX5, "receive", "(II)V"⟩
abbrev cX5_reserve : ByteArray := prog_7_method_5_code
def yX5_reserve : MethodName := ⟨RX5, "reserve", "(III)V"⟩
abbrev cX5_ship : ByteArray := prog_7_method_6_code
def yX5_ship : MethodName := ⟨RX5, "ship", "(III)V"⟩
abbrev cX5_release : ByteArray := prog_7_method_7_code
def yX5_release : MethodName := ⟨RX5, "release", "(III)V"⟩
abbrev cX5_answerTo : ByteArray := prog_7_method_8_code
def yX5_answerTo : MethodName := ⟨RX5, "answerTo", "(III)J"⟩
abbrev cX5_heldBy : ByteArray := prog_7_method_9_code
def yX5_heldBy : MethodName := ⟨RX5, "heldBy", "(I)J"⟩
abbrev cX5_itemRanked : ByteArray := prog_7_method_10_code
def yX5_itemRanked : MethodName := ⟨RX5, "itemRanked", "(I)I"⟩
abbrev cX5_worth : ByteArray := prog_7_method_11_code
def yX5_worth : MethodName := ⟨RX5, "worth", "(II)J"⟩
def RX6 : String := "ReadSide"
def TX6 : u_T := fun k => match k with
  | 0 => ("ReadSide", "logs", "[LReadSide$Log;", true)
  | 1 => ("ReadSide", "replicas", "[LReadSide$Replica;", true)
  | 2 => ("ReadSide", "sessions", "[LReadSide$Session;", true)
  | 3 => ("ReadSide", "reads", "[LReadSide$Read;", true)
  | 4 => ("ReadSide", "waiting", "[LReadSide$Read;", true)
  | 5 => ("ReadSide", "asked", "I", false)
  | 6 => ("ReadSide", "waitingNow", "I", false)
  | 7 => ("ReadSide", "answered", "I", false)
  | 8 => ("ReadSide", "failed", "I", false)
  | _ => ("ReadSide", "time", "I", false)
def tyX6 : Nat → FieldType := fun k => match k with
  | 0 => .array (.object "ReadSide$Log")
  | 1 => .array (.object "ReadSide$Replica")
  | 2 => .array (.object "ReadSide$Session")
  | 3 => .array (.object "ReadSide$Read")
  | 4 => .array (.object "ReadSide$Read")
  | 5 => .int
  | 6 => .int
  | 7 => .int
  | 8 => .int
  | _ => .int
abbrev wsX60 : List Cond := u_ws RX6 TX6 10
theorem nmX6 : ∀ a, a < 10 → ∀ b, b < 10 → a ≠ b → (TX6 a).2.1 ≠ (TX6 b).2.1 := by decide +kernel
theorem tyX6_ok : ∀ k, k < 10 → parseFieldDescriptor (TX6 k).2.2.1 = some (tyX6 k) := by decide +kernel
abbrev cX6_init : ByteArray := prog_1_method_1_code
def yX6_init : MethodName := ⟨RX6, "<init>", "(II)V"⟩
abbrev cX6_mode : ByteArray := prog_1_method_2_code
def yX6_mode : MethodName := ⟨RX6, "mode", "(II)I"⟩
abbrev cX6_home : ByteArray := prog_1_method_3_code
def yX6_home : MethodName := ⟨RX6, "home", "(II)I"⟩
abbrev cX6_command : ByteArray := prog_1_method_4_code
def yX6_command : MethodName := ⟨RX6, "command", "(IIIII)J"⟩
abbrev cX6_step : ByteArray := prog_1_method_5_code
def yX6_step : MethodName := ⟨RX6, "step", "(II)I"⟩
abbrev cX6_speed : ByteArray := prog_1_method_6_code
def yX6_speed : MethodName := ⟨RX6, "speed", "(II)I"⟩
abbrev cX6_ticks : ByteArray := prog_1_method_7_code
def yX6_ticks : MethodName := ⟨RX6, "ticks", "(I)I"⟩
abbrev cX6_up : ByteArray := prog_1_method_8_code
def yX6_up : MethodName := ⟨RX6, "up", "(IZ)Z"⟩
abbrev cX6_snapshot : ByteArray := prog_1_method_9_code
def yX6_snapshot : MethodName := ⟨RX6, "snapshot", "(I)I"⟩
abbrev cX6_crash : ByteArray := prog_1_method_10_code
def yX6_crash : MethodName := ⟨RX6, "crash", "(I)I"⟩
abbrev cX6_trim : ByteArray := prog_1_method_11_code
def yX6_trim : MethodName := ⟨RX6, "trim", "()I"⟩
abbrev cX6_ask : ByteArray := prog_1_method_12_code
def yX6_ask : MethodName := ⟨RX6, "ask", "(IJIIII)I"⟩
abbrev cX6_read : ByteArray := prog_1_method_13_code
def yX6_read : MethodName := ⟨RX6, "read", "(II)J"⟩
abbrev cX6_value : ByteArray := prog_1_method_14_code
def yX6_value : MethodName := ⟨RX6, "value", "(III)J"⟩
abbrev cX6_at : ByteArray := prog_1_method_15_code
def yX6_at : MethodName := ⟨RX6, "at", "(II)I"⟩
abbrev cX6_kept : ByteArray := prog_1_method_16_code
def yX6_kept : MethodName := ⟨RX6, "kept", "(II)I"⟩
abbrev cX6_log : ByteArray := prog_1_method_17_code
def yX6_log : MethodName := ⟨RX6, "log", "(II)I"⟩
abbrev cX6_logged : ByteArray := prog_1_method_18_code
def yX6_logged : MethodName := ⟨RX6, "logged", "(III)I"⟩
abbrev cX6_session : ByteArray := prog_1_method_19_code
def yX6_session : MethodName := ⟨RX6, "session", "(III)I"⟩
abbrev cX6_told : ByteArray := prog_1_method_20_code
def yX6_told : MethodName := ⟨RX6, "told", "(JI)I"⟩
abbrev cX6_count : ByteArray := prog_1_method_21_code
def yX6_count : MethodName := ⟨RX6, "count", "(I)I"⟩
abbrev cX6_needIndex : ByteArray := prog_1_method_22_code
def yX6_needIndex : MethodName := ⟨RX6, "needIndex", "(II)V"⟩
abbrev cX6_needNumber : ByteArray := prog_1_method_23_code
def yX6_needNumber : MethodName := ⟨RX6, "needNumber", "(III)V"⟩
abbrev cX6_needQuestion : ByteArray := prog_1_method_24_code
def yX6_needQuestion : MethodName := ⟨RX6, "needQuestion", "(II)V"⟩
abbrev cX6_needToken : ByteArray := prog_1_method_25_code
def yX6_needToken : MethodName := ⟨RX6, "needToken", "(J)V"⟩
abbrev cX6_checkOf : ByteArray := prog_1_method_26_code
def yX6_checkOf : MethodName := ⟨RX6, "checkOf", "(J)J"⟩
abbrev cX6_tokenOf : ByteArray := prog_1_method_27_code
def yX6_tokenOf : MethodName := ⟨RX6, "tokenOf", "([I)J"⟩
abbrev cX6_positionIn : ByteArray := prog_1_method_28_code
def yX6_positionIn : MethodName := ⟨RX6, "positionIn", "(JI)I"⟩
abbrev cX6_withPosition : ByteArray := prog_1_method_29_code
def yX6_withPosition : MethodName := ⟨RX6, "withPosition", "([III)[I"⟩
abbrev cX6_covers : ByteArray := prog_1_method_30_code
def yX6_covers : MethodName := ⟨RX6, "covers", "([I[I)Z"⟩
abbrev cX6_sum : ByteArray := prog_1_method_31_code
def yX6_sum : MethodName := ⟨RX6, "sum", "([I)I"⟩
abbrev cX6_leastKept : ByteArray := prog_1_method_32_code
def yX6_leastKept : MethodName := ⟨RX6, "leastKept", "(I)I"⟩
abbrev cX6_takeStep : ByteArray := prog_1_method_33_code
def yX6_takeStep : MethodName := ⟨RX6, "takeStep", "(II)I"⟩
abbrev cX6_takeStepsOfTick : ByteArray := prog_1_method_34_code
def yX6_takeStepsOfTick : MethodName := ⟨RX6, "takeStepsOfTick", "(I)I"⟩
abbrev cX6_firstThatMay : ByteArray := prog_1_method_35_code
def yX6_firstThatMay : MethodName := ⟨RX6, "firstThatMay", "(LReadSide$Read;)I"⟩
abbrev cX6_mayAnswer : ByteArray := prog_1_method_36_code
def yX6_mayAnswer : MethodName := ⟨RX6, "mayAnswer", "(LReadSide$Replica;LReadSide$Read;)Z"⟩
abbrev cX6_leastFor : ByteArray := prog_1_method_37_code
def yX6_leastFor : MethodName := ⟨RX6, "leastFor", "(LReadSide$Read;I)I"⟩
abbrev cX6_lookAtWaiting : ByteArray := prog_1_method_38_code
def yX6_lookAtWaiting : MethodName := ⟨RX6, "lookAtWaiting", "(I)V"⟩
abbrev cX6_failOverdue : ByteArray := prog_1_method_39_code
def yX6_failOverdue : MethodName := ⟨RX6, "failOverdue", "()V"⟩
abbrev cX6_forgetEnded : ByteArray := prog_1_method_40_code
def yX6_forgetEnded : MethodName := ⟨RX6, "forgetEnded", "()V"⟩
abbrev cX6_answer : ByteArray := prog_1_method_41_code
def yX6_answer : MethodName := ⟨RX6, "answer", "(LReadSide$Read;I)V"⟩
abbrev cX6_fail : ByteArray := prog_1_method_42_code
def yX6_fail : MethodName := ⟨RX6, "fail", "(LReadSide$Read;)V"⟩
def RX7 : String := "ReadSideModel"
def TX7 : u_T := fun k => match k with
  | 0 => ("ReadSideModel", "parts", "I", true)
  | 1 => ("ReadSideModel", "replicas", "I", true)
  | 2 => ("ReadSideModel", "thrown", "I", false)
  | 3 => ("ReadSideModel", "time", "I", false)
  | 4 => ("ReadSideModel", "ends", "[I", true)
  | 5 => ("ReadSideModel", "trimmed", "[I", true)
  | 6 => ("ReadSideModel", "kinds", "[I", true)
  | 7 => ("ReadSideModel", "items", "[I", true)
  | 8 => ("ReadSideModel", "customers", "[I", true)
  | 9 => ("ReadSideModel", "amounts", "[I", true)
  | 10 => ("ReadSideModel", "needs", "[I", true)
  | 11 => ("ReadSideModel", "stock", "[I", true)
  | 12 => ("ReadSideModel", "reserved", "[I", true)
  | 13 => ("ReadSideModel", "sold", "[I", true)
  | 14 => ("ReadSideModel", "price", "[I", true)
  | 15 => ("ReadSideModel", "holds", "[I", true)
  | 16 => ("ReadSideModel", "paid", "[J", true)
  | 17 => ("ReadSideModel", "refusals", "[I", true)
  | 18 => ("ReadSideModel", "at", "[I", true)
  | 19 => ("ReadSideModel", "speeds", "[I", true)
  | 20 => ("ReadSideModel", "next", "[I", true)
  | 21 => ("ReadSideModel", "up", "[Z", true)
  | 22 => ("ReadSideModel", "modes", "[I", true)
  | 23 => ("ReadSideModel", "homes", "[I", true)
  | 24 => ("ReadSideModel", "wrote", "[I", true)
  | 25 => ("ReadSideModel", "saw", "[I", true)
  | 26 => ("ReadSideModel", "reads", "I", false)
  | 27 => ("ReadSideModel", "state", "[I", true)
  | 28 => ("ReadSideModel", "session", "[I", true)
  | 29 => ("ReadSideModel", "needed", "[I", true)
  | 30 => ("ReadSideModel", "stale", "[I", true)
  | 31 => ("ReadSideModel", "patience", "[I", true)
  | 32 => ("ReadSideModel", "asked", "[I", true)
  | 33 => ("ReadSideModel", "question", "[I", true)
  | 34 => ("ReadSideModel", "about", "[I", true)
  | 35 => ("ReadSideModel", "by", "[I", true)
  | 36 => ("ReadSideModel", "answer", "[J", true)
  | 37 => ("ReadSideModel", "vector", "[J", true)
  | _ => ("ReadSideModel", "ended", "[I", true)
def tyX7 : Nat → FieldType := fun k => match k with
  | 0 => .int
  | 1 => .int
  | 2 => .int
  | 3 => .int
  | 4 => .array .int
  | 5 => .array .int
  | 6 => .array .int
  | 7 => .array .int
  | 8 => .array .int
  | 9 => .array .int
  | 10 => .array .int
  | 11 => .array .int
  | 12 => .array .int
  | 13 => .array .int
  | 14 => .array .int
  | 15 => .array .int
  | 16 => .array .long
  | 17 => .array .int
  | 18 => .array .int
  | 19 => .array .int
  | 20 => .array .int
  | 21 => .array .boolean
  | 22 => .array .int
  | 23 => .array .int
  | 24 => .array .int
  | 25 => .array .int
  | 26 => .int
  | 27 => .array .int
  | 28 => .array .int
  | 29 => .array .int
  | 30 => .array .int
  | 31 => .array .int
  | 32 => .array .int
  | 33 => .array .int
  | 34 => .array .int
  | 35 => .array .int
  | 36 => .array .long
  | 37 => .array .long
  | _ => .array .int
abbrev wsX70 : List Cond := u_ws RX7 TX7 39
theorem nmX7 : ∀ a, a < 39 → ∀ b, b < 39 → a ≠ b → (TX7 a).2.1 ≠ (TX7 b).2.1 := by decide +kernel
theorem tyX7_ok : ∀ k, k < 39 → parseFieldDescriptor (TX7 k).2.2.1 = some (tyX7 k) := by decide +kernel
abbrev cX7_init : ByteArray := prog_9_method_1_code
def yX7_init : MethodName := ⟨RX7, "<init>", "(II)V"⟩
abbrev cX7_lesser : ByteArray := prog_9_method_2_code
def yX7_lesser : MethodName := ⟨RX7, "lesser", "(II)I"⟩
abbrev cX7_greater : ByteArray := prog_9_method_3_code
def yX7_greater : MethodName := ⟨RX7, "greater", "(II)I"⟩
abbrev cX7_thrown : ByteArray := prog_9_method_4_code
def yX7_thrown : MethodName := ⟨RX7, "thrown", "()I"⟩
abbrev cX7_in : ByteArray := prog_9_method_5_code
def yX7_in : MethodName := ⟨RX7, "in", "(JJJ)Z"⟩
abbrev cX7_check : ByteArray := prog_9_method_6_code
def yX7_check : MethodName := ⟨RX7, "check", "(J)J"⟩
abbrev cX7_tokenOf : ByteArray := prog_9_method_7_code
def yX7_tokenOf : MethodName := ⟨RX7, "tokenOf", "(III)J"⟩
abbrev cX7_position : ByteArray := prog_9_method_8_code
def yX7_position : MethodName := ⟨RX7, "position", "(JI)I"⟩
abbrev cX7_isToken : ByteArray := prog_9_method_9_code
def yX7_isToken : MethodName := ⟨RX7, "isToken", "(J)Z"⟩
abbrev cX7_isSession : ByteArray := prog_9_method_10_code
def yX7_isSession : MethodName := ⟨RX7, "isSession", "(I)Z"⟩
abbrev cX7_isReplica : ByteArray := prog_9_method_11_code
def yX7_isReplica : MethodName := ⟨RX7, "isReplica", "(I)Z"⟩
abbrev cX7_isPart : ByteArray := prog_9_method_12_code
def yX7_isPart : MethodName := ⟨RX7, "isPart", "(I)Z"⟩
abbrev cX7_mode : ByteArray := prog_9_method_13_code
def yX7_mode : MethodName := ⟨RX7, "mode", "(II)I"⟩
abbrev cX7_home : ByteArray := prog_9_method_14_code
def yX7_home : MethodName := ⟨RX7, "home", "(II)I"⟩
abbrev cX7_command : ByteArray := prog_9_method_15_code
def yX7_command : MethodName := ⟨RX7, "command", "(IIIII)J"⟩
abbrev cX7_take : ByteArray := prog_9_method_16_code
def yX7_take : MethodName := ⟨RX7, "take", "(II)V"⟩
abbrev cX7_covers : ByteArray := prog_9_method_17_code
def yX7_covers : MethodName := ⟨RX7, "covers", "([III)Z"⟩
abbrev cX7_advance : ByteArray := prog_9_method_18_code
def yX7_advance : MethodName := ⟨RX7, "advance", "(II)I"⟩
abbrev cX7_step : ByteArray := prog_9_method_19_code
def yX7_step : MethodName := ⟨RX7, "step", "(II)I"⟩
abbrev cX7_speed : ByteArray := prog_9_method_20_code
def yX7_speed : MethodName := ⟨RX7, "speed", "(II)I"⟩
abbrev cX7_tick : ByteArray := prog_9_method_21_code
def yX7_tick : MethodName := ⟨RX7, "tick", "()I"⟩
abbrev cX7_fail : ByteArray := prog_9_method_22_code
def yX7_fail : MethodName := ⟨RX7, "fail", "(I)V"⟩
abbrev cX7_ticks : ByteArray := prog_9_method_23_code
def yX7_ticks : MethodName := ⟨RX7, "ticks", "(I)I"⟩
abbrev cX7_up : ByteArray := prog_9_method_24_code
def yX7_up : MethodName := ⟨RX7, "up", "(IZ)Z"⟩
abbrev cX7_copy : ByteArray := prog_9_method_25_code
def yX7_copy : MethodName := ⟨RX7, "copy", "(II)V"⟩
abbrev cX7_sum : ByteArray := prog_9_method_26_code
def yX7_sum : MethodName := ⟨RX7, "sum", "(I)I"⟩
abbrev cX7_snapshot : ByteArray := prog_9_method_27_code
def yX7_snapshot : MethodName := ⟨RX7, "snapshot", "(I)I"⟩
abbrev cX7_crash : ByteArray := prog_9_method_28_code
def yX7_crash : MethodName := ⟨RX7, "crash", "(I)I"⟩
abbrev cX7_trim : ByteArray := prog_9_method_29_code
def yX7_trim : MethodName := ⟨RX7, "trim", "()I"⟩
abbrev cX7_isQuestion : ByteArray := prog_9_method_30_code
def yX7_isQuestion : MethodName := ⟨RX7, "isQuestion", "(II)Z"⟩
abbrev cX7_tell : ByteArray := prog_9_method_31_code
def yX7_tell : MethodName := ⟨RX7, "tell", "(III)J"⟩
abbrev cX7_ranked : ByteArray := prog_9_method_32_code
def yX7_ranked : MethodName := ⟨RX7, "ranked", "(II)I"⟩
abbrev cX7_may : ByteArray := prog_9_method_33_code
def yX7_may : MethodName := ⟨RX7, "may", "(II)Z"⟩
abbrev cX7_answer : ByteArray := prog_9_method_34_code
def yX7_answer : MethodName := ⟨RX7, "answer", "(II)V"⟩
abbrev cX7_look : ByteArray := prog_9_method_35_code
def yX7_look : MethodName := ⟨RX7, "look", "(I)V"⟩
abbrev cX7_waiting : ByteArray := prog_9_method_36_code
def yX7_waiting : MethodName := ⟨RX7, "waiting", "()I"⟩
abbrev cX7_ask : ByteArray := prog_9_method_37_code
def yX7_ask : MethodName := ⟨RX7, "ask", "(IJIIII)I"⟩
abbrev cX7_read : ByteArray := prog_9_method_38_code
def yX7_read : MethodName := ⟨RX7, "read", "(II)J"⟩
abbrev cX7_value : ByteArray := prog_9_method_39_code
def yX7_value : MethodName := ⟨RX7, "value", "(III)J"⟩
abbrev cX7_at : ByteArray := prog_9_method_40_code
def yX7_at : MethodName := ⟨RX7, "at", "(II)I"⟩
abbrev cX7_kept : ByteArray := prog_9_method_41_code
def yX7_kept : MethodName := ⟨RX7, "kept", "(II)I"⟩
abbrev cX7_log : ByteArray := prog_9_method_42_code
def yX7_log : MethodName := ⟨RX7, "log", "(II)I"⟩
abbrev cX7_logged : ByteArray := prog_9_method_43_code
def yX7_logged : MethodName := ⟨RX7, "logged", "(III)I"⟩
abbrev cX7_session : ByteArray := prog_9_method_44_code
def yX7_session : MethodName := ⟨RX7, "session", "(III)I"⟩
abbrev cX7_told : ByteArray := prog_9_method_45_code
def yX7_told : MethodName := ⟨RX7, "told", "(JI)I"⟩
abbrev cX7_count : ByteArray := prog_9_method_46_code
def yX7_count : MethodName := ⟨RX7, "count", "(I)I"⟩
def RJx8e188 : String := "java/lang/Cloneable"
def TJx8e188 : u_T := fun k => match k with
  | _ => ("", "", "", false)
def tyJx8e188 : Nat → FieldType := fun k => match k with
  | _ => .int
abbrev wsJx8e1880 : List Cond := u_ws RJx8e188 TJx8e188 0
theorem nmJx8e188 : ∀ a, a < 0 → ∀ b, b < 0 → a ≠ b → (TJx8e188 a).2.1 ≠ (TJx8e188 b).2.1 := by decide +kernel
theorem tyJx8e188_ok : ∀ k, k < 0 → parseFieldDescriptor (TJx8e188 k).2.2.1 = some (tyJx8e188 k) := by decide +kernel
def RJ9 : String := "java/lang/Math"
def TJ9 : u_T := fun k => match k with
  | _ => ("", "", "", false)
def tyJ9 : Nat → FieldType := fun k => match k with
  | _ => .int
abbrev wsJ90 : List Cond := u_ws RJ9 TJ9 0
theorem nmJ9 : ∀ a, a < 0 → ∀ b, b < 0 → a ≠ b → (TJ9 a).2.1 ≠ (TJ9 b).2.1 := by decide +kernel
theorem tyJ9_ok : ∀ k, k < 0 → parseFieldDescriptor (TJ9 k).2.2.1 = some (tyJ9 k) := by decide +kernel
abbrev cJ9_max_7cf53 : ByteArray := prog_15_method_65_code
def yJ9_max_7cf53 : MethodName := ⟨RJ9, "max", "(II)I"⟩
abbrev cJ9_min_7cf53 : ByteArray := prog_15_method_69_code
def yJ9_min_7cf53 : MethodName := ⟨RJ9, "min", "(II)I"⟩
def RJ0 : String := "java/lang/String"
def TJ0 : u_T := fun k => match k with
  | _ => ("", "", "", false)
def tyJ0 : Nat → FieldType := fun k => match k with
  | _ => .int
abbrev wsJ00 : List Cond := u_ws RJ0 TJ0 0
theorem nmJ0 : ∀ a, a < 0 → ∀ b, b < 0 → a ≠ b → (TJ0 a).2.1 ≠ (TJ0 b).2.1 := by decide +kernel
theorem tyJ0_ok : ∀ k, k < 0 → parseFieldDescriptor (TJ0 k).2.2.1 = some (tyJ0 k) := by decide +kernel
def RJ10 : String := "java/lang/System"
def TJ10 : u_T := fun k => match k with
  | _ => ("", "", "", false)
def tyJ10 : Nat → FieldType := fun k => match k with
  | _ => .int
abbrev wsJ100 : List Cond := u_ws RJ10 TJ10 0
theorem nmJ10 : ∀ a, a < 0 → ∀ b, b < 0 → a ≠ b → (TJ10 a).2.1 ≠ (TJ10 b).2.1 := by decide +kernel
theorem tyJ10_ok : ∀ k, k < 0 → parseFieldDescriptor (TJ10 k).2.2.1 = some (tyJ10 k) := by decide +kernel
def RL : String := "ReadSideLaw"
abbrev cL_cell : ByteArray := method_2_code
def yL_cell : MethodName := ⟨RL, "cell", "([II)I"⟩
abbrev cL_mode : ByteArray := method_3_code
def yL_mode : MethodName := ⟨RL, "mode", "(LReadSide;II[J)I"⟩
abbrev cL_home : ByteArray := method_4_code
def yL_home : MethodName := ⟨RL, "home", "(LReadSide;II[J)I"⟩
abbrev cL_command : ByteArray := method_5_code
def yL_command : MethodName := ⟨RL, "command", "(LReadSide;IIIII[J)I"⟩
abbrev cL_step : ByteArray := method_6_code
def yL_step : MethodName := ⟨RL, "step", "(LReadSide;II[J)I"⟩
abbrev cL_speed : ByteArray := method_7_code
def yL_speed : MethodName := ⟨RL, "speed", "(LReadSide;II[J)I"⟩
abbrev cL_ticks : ByteArray := method_8_code
def yL_ticks : MethodName := ⟨RL, "ticks", "(LReadSide;I[J)I"⟩
abbrev cL_up : ByteArray := method_9_code
def yL_up : MethodName := ⟨RL, "up", "(LReadSide;IZ[J)I"⟩
abbrev cL_snapshot : ByteArray := method_10_code
def yL_snapshot : MethodName := ⟨RL, "snapshot", "(LReadSide;I[J)I"⟩
abbrev cL_crash : ByteArray := method_11_code
def yL_crash : MethodName := ⟨RL, "crash", "(LReadSide;I[J)I"⟩
abbrev cL_ask : ByteArray := method_12_code
def yL_ask : MethodName := ⟨RL, "ask", "(LReadSide;IJIIII[J)I"⟩
abbrev cL_read : ByteArray := method_13_code
def yL_read : MethodName := ⟨RL, "read", "(LReadSide;II[J)I"⟩
abbrev cL_value : ByteArray := method_14_code
def yL_value : MethodName := ⟨RL, "value", "(LReadSide;III[J)I"⟩
abbrev cL_at : ByteArray := method_15_code
def yL_at : MethodName := ⟨RL, "at", "(LReadSide;II[J)I"⟩
abbrev cL_kept : ByteArray := method_16_code
def yL_kept : MethodName := ⟨RL, "kept", "(LReadSide;II[J)I"⟩
abbrev cL_log : ByteArray := method_17_code
def yL_log : MethodName := ⟨RL, "log", "(LReadSide;II[J)I"⟩
abbrev cL_logged : ByteArray := method_18_code
def yL_logged : MethodName := ⟨RL, "logged", "(LReadSide;III[J)I"⟩
abbrev cL_session : ByteArray := method_19_code
def yL_session : MethodName := ⟨RL, "session", "(LReadSide;III[J)I"⟩
abbrev cL_told : ByteArray := method_20_code
def yL_told : MethodName := ⟨RL, "told", "(LReadSide;JI[J)I"⟩
abbrev cL_count : ByteArray := method_21_code
def yL_count : MethodName := ⟨RL, "count", "(LReadSide;I[J)I"⟩
abbrev cL_law : ByteArray := code
def yL_law : MethodName := ⟨RL, "law", "([I)Z"⟩
abbrev vwCl : List vw_C := [(RX0, TX0, 5), (RX1, TX1, 3), (RX2, TX2, 11), (RX3, TX3, 7), (RX4, TX4, 4), (RX5, TX5, 7), (RX6, TX6, 10), (RX7, TX7, 39)]
end
section
abbrev am_Row : Type := MethodName × ByteArray × Nat × Option FieldType × List (Nat × Nat × Nat × Nat) × Nat × Nat
def am_tab0 : List am_Row := [(yX0_init, cX0_init, 6, none, [], 1, 12), (yX1_init, cX1_init, 1, none, [], 1, 12), (yX1_commandAt, cX1_commandAt, 2, (some (.object "ReadSide$Command")), [], 0, 0), (yX1_append, cX1_append, 2, none, [], 0, 0), (yX1_dropTo, cX1_dropTo, 4, (some .int), [], 0, 0), (yX2_init, cX2_init, 8, none, [], 1, 12), (yX3_init, cX3_init, 1, none, [], 2, 27), (yX3_keep, cX3_keep, 1, none, [], 2, 53), (yX3_comeAgain, cX3_comeAgain, 1, none, [], 2, 53), (yX4_init, cX4_init, 1, none, [], 1, 12), (yX4_needsNow, cX4_needsNow, 3, (some (.array .int)), [], 1, 15), (yX4_see, cX4_see, 3, none, [], 1, 15), (yX5_init, cX5_init, 2, none, [], 1, 12), (yX5_becomeLike, cX5_becomeLike, 2, none, [], 1, 40), (yX5_take, cX5_take, 5, none, [], 2, 30), (yX5_receive, cX5_receive, 3, none, [], 0, 0)]
def am_tab1 : List am_Row := [(yX5_reserve, cX5_reserve, 4, none, [], 0, 0), (yX5_ship, cX5_ship, 5, none, [], 0, 0), (yX5_release, cX5_release, 6, none, [], 1, 13), (yX5_answerTo, cX5_answerTo, 4, (some .long), [], 1, 17), (yX5_heldBy, cX5_heldBy, 5, (some .long), [], 0, 0), (yX5_itemRanked, cX5_itemRanked, 6, (some .int), [], 0, 0), (yX5_worth, cX5_worth, 6, (some .long), [], 0, 0), (yX6_init, cX6_init, 6, none, [], 3, 42), (yX6_mode, cX6_mode, 6, (some .int), [], 7, 96), (yX6_home, cX6_home, 4, (some .int), [], 7, 95), (yX6_command, cX6_command, 10, (some .long), [], 7, 96), (yX6_step, cX6_step, 3, (some .int), [], 7, 95), (yX6_speed, cX6_speed, 4, (some .int), [], 7, 96), (yX6_ticks, cX6_ticks, 5, (some .int), [], 7, 98), (yX6_up, cX6_up, 4, (some .boolean), [], 7, 95), (yX6_snapshot, cX6_snapshot, 3, (some .int), [], 7, 95)]
def am_tab2 : List am_Row := [(yX6_crash, cX6_crash, 4, (some .int), [], 7, 95), (yX6_trim, cX6_trim, 3, (some .int), [], 2, 33), (yX6_ask, cX6_ask, 11, (some .int), [], 8, 109), (yX6_read, cX6_read, 4, (some .long), [], 7, 95), (yX6_value, cX6_value, 4, (some .long), [], 8, 109), (yX6_at, cX6_at, 3, (some .int), [], 7, 95), (yX6_kept, cX6_kept, 3, (some .int), [], 7, 95), (yX6_log, cX6_log, 3, (some .int), [], 7, 95), (yX6_logged, cX6_logged, 5, (some .int), [], 7, 95), (yX6_session, cX6_session, 5, (some .int), [], 7, 95), (yX6_told, cX6_told, 4, (some .int), [], 7, 100), (yX6_count, cX6_count, 2, (some .int), [], 6, 82), (yX6_needIndex, cX6_needIndex, 2, none, [], 6, 82), (yX6_needNumber, cX6_needNumber, 3, none, [], 6, 82), (yX6_needQuestion, cX6_needQuestion, 3, none, [], 7, 95), (yX6_needToken, cX6_needToken, 7, none, [], 6, 82)]
def am_tab3 : List am_Row := [(yX6_checkOf, cX6_checkOf, 2, (some .long), [], 0, 0), (yX6_tokenOf, cX6_tokenOf, 4, (some .long), [], 1, 15), (yX6_positionIn, cX6_positionIn, 3, (some .int), [], 0, 0), (yX6_withPosition, cX6_withPosition, 4, (some (.array .int)), [], 1, 15), (yX6_covers, cX6_covers, 3, (some .boolean), [], 0, 0), (yX6_sum, cX6_sum, 6, (some .int), [], 0, 0), (yX6_leastKept, cX6_leastKept, 7, (some .int), [], 1, 13), (yX6_takeStep, cX6_takeStep, 5, (some .int), [], 4, 62), (yX6_takeStepsOfTick, cX6_takeStepsOfTick, 8, (some .int), [], 5, 78), (yX6_firstThatMay, cX6_firstThatMay, 5, (some .int), [], 3, 46), (yX6_mayAnswer, cX6_mayAnswer, 4, (some .boolean), [], 2, 31), (yX6_leastFor, cX6_leastFor, 5, (some .int), [], 1, 14), (yX6_lookAtWaiting, cX6_lookAtWaiting, 3, none, [], 3, 48), (yX6_failOverdue, cX6_failOverdue, 2, none, [], 1, 14), (yX6_forgetEnded, cX6_forgetEnded, 3, none, [], 0, 0), (yX6_answer, cX6_answer, 4, none, [], 2, 33)]
def am_tab4 : List am_Row := [(yX6_fail, cX6_fail, 2, none, [], 0, 0), (yX7_init, cX7_init, 4, none, [], 1, 12), (yX7_lesser, cX7_lesser, 2, (some .int), [], 0, 0), (yX7_greater, cX7_greater, 2, (some .int), [], 0, 0), (yX7_thrown, cX7_thrown, 1, (some .int), [], 0, 0), (yX7_in, cX7_in, 6, (some .boolean), [], 0, 0), (yX7_check, cX7_check, 2, (some .long), [], 0, 0), (yX7_tokenOf, cX7_tokenOf, 5, (some .long), [], 1, 15), (yX7_position, cX7_position, 3, (some .int), [], 0, 0), (yX7_isToken, cX7_isToken, 7, (some .boolean), [], 1, 15), (yX7_isSession, cX7_isSession, 1, (some .boolean), [], 1, 17), (yX7_isReplica, cX7_isReplica, 2, (some .boolean), [], 1, 17), (yX7_isPart, cX7_isPart, 2, (some .boolean), [], 1, 17), (yX7_mode, cX7_mode, 5, (some .int), [], 4, 70), (yX7_home, cX7_home, 4, (some .int), [], 2, 31), (yX7_command, cX7_command, 11, (some .long), [], 2, 31)]
def am_tab5 : List am_Row := [(yX7_take, cX7_take, 8, none, [], 1, 13), (yX7_covers, cX7_covers, 6, (some .boolean), [], 0, 0), (yX7_advance, cX7_advance, 4, (some .int), [], 4, 70), (yX7_step, cX7_step, 3, (some .int), [], 5, 85), (yX7_speed, cX7_speed, 4, (some .int), [], 2, 31), (yX7_tick, cX7_tick, 6, (some .int), [], 5, 85), (yX7_fail, cX7_fail, 2, none, [], 0, 0), (yX7_ticks, cX7_ticks, 4, (some .int), [], 6, 103), (yX7_up, cX7_up, 4, (some .boolean), [], 4, 70), (yX7_copy, cX7_copy, 4, none, [], 0, 0), (yX7_sum, cX7_sum, 2, (some .int), [], 0, 0), (yX7_snapshot, cX7_snapshot, 2, (some .int), [], 2, 31), (yX7_crash, cX7_crash, 3, (some .int), [], 2, 31), (yX7_trim, cX7_trim, 5, (some .int), [], 1, 13), (yX7_isQuestion, cX7_isQuestion, 3, (some .boolean), [], 1, 17), (yX7_tell, cX7_tell, 9, (some .long), [], 1, 19)]
def am_tab6 : List am_Row := [(yX7_ranked, cX7_ranked, 8, (some .int), [], 0, 0), (yX7_may, cX7_may, 6, (some .boolean), [], 1, 17), (yX7_answer, cX7_answer, 4, none, [], 2, 41), (yX7_look, cX7_look, 3, none, [], 3, 56), (yX7_waiting, cX7_waiting, 3, (some .int), [], 0, 0), (yX7_ask, cX7_ask, 11, (some .int), [], 3, 56), (yX7_read, cX7_read, 3, (some .long), [], 1, 18), (yX7_value, cX7_value, 4, (some .long), [], 2, 39), (yX7_at, cX7_at, 3, (some .int), [], 2, 31), (yX7_kept, cX7_kept, 3, (some .int), [], 2, 31), (yX7_log, cX7_log, 3, (some .int), [], 2, 31), (yX7_logged, cX7_logged, 5, (some .int), [], 2, 31), (yX7_session, cX7_session, 4, (some .int), [], 2, 31), (yX7_told, cX7_told, 4, (some .int), [], 2, 34), (yX7_count, cX7_count, 4, (some .int), [], 1, 18), (yL_cell, cL_cell, 2, (some .int), [], 0, 0)]
def am_tab7 : List am_Row := [(yL_mode, cL_mode, 5, (some .int), [(0, 10, 13, 13), (0, 10, 17, 15)], 8, 115), (yL_home, cL_home, 5, (some .int), [(0, 10, 13, 13)], 8, 112), (yL_command, cL_command, 8, (some .int), [(0, 15, 18, 13), (0, 15, 22, 15), (0, 15, 26, 24)], 8, 119), (yL_step, cL_step, 5, (some .int), [(0, 10, 13, 13)], 8, 111), (yL_speed, cL_speed, 5, (some .int), [(0, 10, 13, 13), (0, 10, 17, 15)], 8, 113), (yL_ticks, cL_ticks, 4, (some .int), [(0, 9, 12, 15)], 8, 116), (yL_up, cL_up, 5, (some .int), [(0, 17, 20, 13)], 8, 112), (yL_snapshot, cL_snapshot, 4, (some .int), [(0, 9, 12, 13)], 8, 111), (yL_crash, cL_crash, 4, (some .int), [(0, 9, 12, 13)], 8, 112), (yL_ask, cL_ask, 10, (some .int), [(0, 19, 22, 13), (0, 19, 26, 15), (0, 19, 30, 24)], 9, 133), (yL_read, cL_read, 5, (some .int), [(0, 9, 12, 13)], 8, 112), (yL_value, cL_value, 6, (some .int), [(0, 11, 14, 13)], 9, 126), (yL_at, cL_at, 5, (some .int), [(0, 10, 13, 13)], 8, 111), (yL_kept, cL_kept, 5, (some .int), [(0, 10, 13, 13)], 8, 111), (yL_log, cL_log, 5, (some .int), [(0, 10, 13, 13)], 8, 111), (yL_logged, cL_logged, 6, (some .int), [(0, 12, 15, 13)], 8, 113)]
def am_tab8 : List am_Row := [(yL_session, cL_session, 6, (some .int), [(0, 12, 15, 13)], 8, 113), (yL_told, cL_told, 6, (some .int), [(0, 11, 14, 13), (0, 11, 18, 15)], 8, 117), (yL_count, cL_count, 4, (some .int), [(0, 9, 12, 13)], 7, 97), (yL_law, cL_law, 8, (some .boolean), [], 10, 154)]
def am_tab : List am_Row := am_tab0 ++ (am_tab1 ++ (am_tab2 ++ (am_tab3 ++ (am_tab4 ++ (am_tab5 ++ (am_tab6 ++ (am_tab7 ++ (am_tab8))))))))
def am_row0 (k : Nat) : am_Row := am_tab.getD k (yL_law, cL_law, 0, none, [], 0, 0)
def am_y (k : Nat) : MethodName := (am_row0 k).1
def am_b (k : Nat) : ByteArray := (am_row0 k).2.1
def am_ml (k : Nat) : Nat := (am_row0 k).2.2.1
def am_rt (k : Nat) : Option FieldType := (am_row0 k).2.2.2.1
def am_hs (k : Nat) : List (Nat × Nat × Nat × Nat) := (am_row0 k).2.2.2.2.1
def am_fr (k : Nat) : Nat := (am_row0 k).2.2.2.2.2.1
def am_lo (k : Nat) : Nat := (am_row0 k).2.2.2.2.2.2
end
section
/-! THE ABSTRACT MACHINE: typed memory (kind, length, ints, longs, references by relative addresses, 0 is null) -/
abbrev am_Mem : Type := (Nat × Nat) × (Nat → Nat) × (Nat → Nat) × (Nat → Nat → Int32) × (Nat → Nat → Int64) × (Nat → Nat → Nat)
def am_n (m : am_Mem) : Nat := m.1.1
def am_u (m : am_Mem) : Nat := m.1.2
def am_K (m : am_Mem) (a : Nat) : Nat := m.2.1 a
def am_L (m : am_Mem) (a : Nat) : Nat := m.2.2.1 a
def am_I (m : am_Mem) (a j : Nat) : Int32 := m.2.2.2.1 a j
def am_J (m : am_Mem) (a j : Nat) : Int64 := m.2.2.2.2.1 a j
def am_R (m : am_Mem) (a j : Nat) : Nat := m.2.2.2.2.2 a j
def am_put {α : Type} (f : Nat → Nat → α) (a j : Nat) (v : α) : Nat → Nat → α := fun b i => if b = a ∧ i = j then v else f b i
def am_row {α : Type} (f : Nat → Nat → α) (a : Nat) (g : Nat → α) : Nat → Nat → α := fun b i => if b = a then g i else f b i
def am_up {α : Type} (f : Nat → α) (a : Nat) (v : α) : Nat → α := fun b => if b = a then v else f b
def am_setI (m : am_Mem) (a j : Nat) (v : Int32) : am_Mem := (m.1, m.2.1, m.2.2.1, am_put m.2.2.2.1 a j v, m.2.2.2.2.1, m.2.2.2.2.2)
def am_setJ (m : am_Mem) (a j : Nat) (v : Int64) : am_Mem := (m.1, m.2.1, m.2.2.1, m.2.2.2.1, am_put m.2.2.2.2.1 a j v, m.2.2.2.2.2)
def am_setR (m : am_Mem) (a j : Nat) (v : Nat) : am_Mem := (m.1, m.2.1, m.2.2.1, m.2.2.2.1, m.2.2.2.2.1, am_put m.2.2.2.2.2 a j v)
def am_rowI (m : am_Mem) (a : Nat) (g : Nat → Int32) : am_Mem := (m.1, m.2.1, m.2.2.1, am_row m.2.2.2.1 a g, m.2.2.2.2.1, m.2.2.2.2.2)
def am_rowJ (m : am_Mem) (a : Nat) (g : Nat → Int64) : am_Mem := (m.1, m.2.1, m.2.2.1, m.2.2.2.1, am_row m.2.2.2.2.1 a g, m.2.2.2.2.2)
/-- a new cell of the kind kd (an array: of len places), sz slots; its address is am_n m + 1 -/
def am_new (m : am_Mem) (kd len sz : Nat) : am_Mem :=
  ((m.1.1 + 1, m.1.2 + sz), am_up m.2.1 (m.1.1 + 1) kd, am_up m.2.2.1 (m.1.1 + 1) len, am_row m.2.2.2.1 (m.1.1 + 1) (fun _ => 0), am_row m.2.2.2.2.1 (m.1.1 + 1) (fun _ => 0), am_row m.2.2.2.2.2 (m.1.1 + 1) (fun _ => 0))
/-- the kinds of the fields: 0 int, 1 long, 2 reference; kinds of cells: 0 Command, 1 Log, 2 Read, 3 Replica, 4 Session, 5 State, 6 ReadSide, 7 ReadSideModel, 8 9 10 the exceptions, 11 int, 12 long, 13 boolean arrays, 14 .. arrays of Command, Log, Read, Replica, Session -/
def am_fk (ci : Nat) : List Nat := match ci with
  | 0 => [0, 0, 0, 0, 2]
  | 1 => [2, 0, 0]
  | 2 => [0, 0, 0, 0, 0, 1, 0, 0, 0, 1, 1]
  | 3 => [2, 2, 2, 2, 0, 0, 0]
  | 4 => [2, 2, 0, 0]
  | 5 => [2, 2, 2, 2, 2, 2, 2]
  | 6 => [2, 2, 2, 2, 2, 0, 0, 0, 0, 0]
  | 7 => [0, 0, 0, 0, 2, 2, 2, 2, 2, 2, 2, 2, 2, 2, 2, 2, 2, 2, 2, 2, 2, 2, 2, 2, 2, 2, 0, 2, 2, 2, 2, 2, 2, 2, 2, 2, 2, 2, 2]
  | _ => []
def am_rv (base : Nat) (x : Nat) : Value := match x with
  | 0 => .null
  | x + 1 => .ref (base + x)
def am_ro (base : Nat) (x : Nat) : Option Nat := match x with
  | 0 => none
  | x + 1 => some (base + x)
theorem am_ro_rv (base x : Nat) : va_rf (am_ro base x) = am_rv base x := by cases x <;> rfl
def am_fv (base : Nat) (m : am_Mem) (a kd j : Nat) : Value := match kd with
  | 0 => .int (am_I m a j)
  | 1 => .long (am_J m a j)
  | _ => am_rv base (am_R m a j)
def am_fl (base : Nat) (m : am_Mem) (a : Nat) : List Nat → Nat → List Value
  | [], _ => []
  | kd :: r, j => am_fv base m a kd j :: am_fl base m a r (j + 1)
def am_ac (base : Nat) (m : am_Mem) (a : Nat) : (Nat → Int32) ⊕ (Nat → Int64) ⊕ (Nat → UInt32) ⊕ (Nat → UInt64) ⊕ (Nat → Option Nat) :=
  if am_K m a = 12 then .inr (.inl (am_J m a)) else if am_K m a < 14 then .inl (am_I m a) else .inr (.inr (.inr (.inr (fun j => am_ro base (am_R m a j)))))
def am_cell (base : Nat) (cy : Nat → ClassId) (m : am_Mem) (a : Nat) : va_E :=
  if am_K m a < 11 then .inr (am_K m a, am_fl base m a (am_fk (am_K m a)) 0) else .inl (cy (am_K m a), am_L m a, am_ac base m a)
def am_ws (base : Nat) (cy : Nat → ClassId) (m : am_Mem) : va_W := (List.range (am_n m)).map (fun i => (base + i, am_cell base cy m (i + 1)))
def am_TE : u_T := fun _ => ("", "", "", false)
def am_cl : List vw_C := vwCl ++ [("java/lang/IndexOutOfBoundsException", am_TE, 0), ("java/lang/IllegalArgumentException", am_TE, 0), ("java/lang/IllegalStateException", am_TE, 0)]
def am_an (j : Nat) : FieldType := match j with
  | 0 => .int
  | 1 => .long
  | 2 => .boolean
  | 3 => .object "ReadSide$Command"
  | 4 => .object "ReadSide$Log"
  | 5 => .object "ReadSide$Read"
  | 6 => .object "ReadSide$Replica"
  | _ => .object "ReadSide$Session"
def am_tys (cy : Nat → ClassId) : List (ClassId × FieldType) := (List.range 8).map (fun j => (cy (11 + j), am_an j))
/-- values: references are relative (0 is null); .retAddr 0 is the law's script, another .retAddr is unknown -/
def am_sh (base b : Nat) (v : Value) : Value := match v with
  | .ref x => am_rv base x
  | .retAddr _ => .ref b
  | v => v
def am_kn (v : Value) : Bool := match v with
  | .retAddr (_ + 1) => false
  | _ => true
def am_ls (base b : Nat) (ls : List Value) (la : Array Slot) (nL : Nat) : Prop :=
  la.size = nL ∧ lv_wf la ∧ ∀ (i : Nat) (v : Value), ls[i]? = some v → am_kn v = true → la[i]? = some (.val (am_sh base b v))
abbrev am_Out : Type := Option Value ⊕ Nat
def am_CM : Nat := 601024
def am_SM : Nat := 7293000
/-- kinds outside the cells that there are -/
def am_Ok (m : am_Mem) : Prop := ∀ a, (a = 0 ∨ am_n m < a) → am_K m a = 99
def am_Rel (base : Nat) (D : va_G) (cy : Nat → ClassId) (m : am_Mem) (H : Heap) : Prop := va_P D am_cl (am_ws base cy m) H ∧ H.size = base + am_n m ∧ am_Ok m
def am_xk (w : Cond) : Bool := match w with
  | .methodLinkNest .. => true
  | .castable .. => true
  | .declares _ => true
  | .arrayOver (.object _) => true
  | _ => false
def am_ncs : List (String × String) := [("java/lang/IllegalArgumentException", "java/lang/IndexOutOfBoundsException"), ("java/lang/IllegalStateException", "java/lang/IndexOutOfBoundsException"), ("java/lang/IllegalStateException", "java/lang/IllegalArgumentException")]
/-- what holds at the start of every method's frame -/
def am_F (base b : Nat) (sc : Nat × (Nat → Int32)) (D : va_G) (cy : Nat → ClassId) (s : State) : Prop :=
  (∀ w ∈ lw_tbl, goodWord w = true → ∀ a, w.before a s = true) ∧ (∀ w ∈ lw_tbl, am_xk w = true → w.before #[] s = true) ∧ (∀ own k tx, Cond.stringRef own k tx ∈ lw_tbl → ∃ sa, vk_R own k tx sa s) ∧ (∀ q ∈ am_ncs, va_Nc q.1 q.2 s) ∧
  va_K D am_cl (am_tys cy) s ∧ va_X b sc.1 sc.2 s s.heap ∧ b < base ∧ base ≤ s.heap.size ∧
  vx_Zq Bundle.tN "UNASSIGNED_STACK" Bundle.steD (fun q => base ≤ q) s s.heap ∧ vx_Zq Bundle.tN "SUPPRESSED_SENTINEL" Bundle.listD (fun q => base ≤ q) s s.heap
/-- the frame's own method is k -/
def am_Fr (k : Nat) (s : State) (mid : MethodId) (meth : Method) (c : Code) : Prop :=
  c.code = am_b k ∧ c.maxLocals = am_ml k ∧ meth.sig.returnType = am_rt k ∧ meth.locks = false ∧ s.vm.findClass (am_y k).cls = some mid.cls ∧ meth.name = (am_y k).name ∧
  c.exceptionTable.toList.map (fun h => (h.startPc, h.endPc, h.handlerPc, h.catchType)) = am_hs k
def am_Rm (R : Room) (m : am_Mem) (cells slots : Nat) : Prop := am_n m ≤ am_CM ∧ am_u m ≤ am_SM ∧ cells + (am_CM - am_n m) ≤ R.cells ∧ slots + (am_SM - am_u m) ≤ R.slots
def am_Ctx (sc : Nat × (Nat → Int32)) (k : Nat) (m : am_Mem) (p : Program) (l : Launch) (base b : Nat) (D : va_G) (cy : Nat → ClassId) (R : Room) (s : State) (mid : MethodId) (meth : Method) (c : Code) (H : Heap) (locs : List Loc) (cells slots : Nat) : Prop :=
  p.tables.exec = Jvm.exec ∧ l.stackTraces = false ∧ am_F base b sc D cy s ∧ am_Fr k s mid meth c ∧ (am_fr k ≤ R.frames ∧ am_lo k ≤ R.locals) ∧ am_Rm R m cells slots ∧ am_Rel base D cy m H ∧ va_S (fun q => base ≤ q) s.heap H locs ∧ s.heap.size + cells = base + am_n m
def am_oo (base b : Nat) (out : am_Out) (o : Outcome) : Prop := match out with
  | .inl v => o = .returned (v.map (am_sh base b))
  | .inr a => ∃ x, a = x + 1 ∧ o = .threw (base + x)
def am_End (base b : Nat) (D : va_G) (cy : Nat → ClassId) (R : Room) (s : State) (below : List Frame) (Q : am_Out → am_Mem → Prop) (t : State) : Prop :=
  ∃ (o : Outcome) (out : am_Out) (m' : am_Mem) (L : List Loc) (k n : Nat), t.status = .running ∧ Ended t below o ∧ Q out m' ∧ am_oo base b out o ∧ am_Rel base D cy m' t.heap ∧ am_Rm R m' k n ∧
    s.WarmedH t.vm ∧ s.sameButNew ({ t with vm := s.vm } : State) L k n ∧ va_S (fun q => base ≤ q) s.heap t.heap L ∧ s.heap.size + k = base + am_n m'
/-- THE JUDGEMENT: method k at pc with these locals, this stack, this memory comes to its end, with Q of the outcome and the memory there; in every machine that holds them -/
def am_W (sc : Nat × (Nat → Int32)) (k pc : Nat) (ls st : List Value) (m : am_Mem) (Q : am_Out → am_Mem → Prop) : Prop :=
  ∀ (p : Program) (l : Launch) (e : Env) (base b : Nat) (D : va_G) (cy : Nat → ClassId) (R : Room) (s : State) (mid : MethodId) (args : Array Value) (below : List Frame) (meth : Method) (c : Code) (H : Heap) (locs : List Loc) (cells slots : Nat) (la : Array Slot),
    am_Ctx sc k m p l base b D cy R s mid meth c H locs cells slots → am_ls base b ls la (am_ml k) →
    W p l e R s mid args below meth c H locs cells slots (am_End base b D cy R s below Q) (F0 mid pc la (st.map (am_sh base b)))
/-- the instruction at pc of method k, and where the next one stands -/
def am_at (k pc : Nat) (i : Instr) (n q : Nat) : Prop := decode (am_b k) pc = .ok (i, n) ∧ pc + n = q
theorem am_W.mono {sc : Nat × (Nat → Int32)} {k pc : Nat} {ls st : List Value} {m : am_Mem} {Q Q' : am_Out → am_Mem → Prop} (h : am_W sc k pc ls st m Q) (hq : ∀ o m', Q o m' → Q' o m') : am_W sc k pc ls st m Q' := by
  intro p l e base b D cy R s mid args below meth c H locs cells slots la C hla T hT X
  obtain ⟨t, a, o, out, m', L, k', n', h1, h2, h3, h4⟩ := h p l e base b D cy R s mid args below meth c H locs cells slots la C hla T hT X
  exact ⟨t, a, o, out, m', L, k', n', h1, h2, hq _ _ h3, h4⟩
end
section
theorem am_C.x {sc : Nat × (Nat → Int32)} {k : Nat} {m : am_Mem} {p : Program} {l : Launch} {base b : Nat} {D : va_G} {cy : Nat → ClassId} {R : Room} {s : State} {mid : MethodId} {meth : Method} {c : Code} {H : Heap} {locs : List Loc} {cells slots : Nat} (C : am_Ctx sc k m p l base b D cy R s mid meth c H locs cells slots) : p.tables.exec = Jvm.exec := C.1
theorem am_C.b {sc : Nat × (Nat → Int32)} {k : Nat} {m : am_Mem} {p : Program} {l : Launch} {base b : Nat} {D : va_G} {cy : Nat → ClassId} {R : Room} {s : State} {mid : MethodId} {meth : Method} {c : Code} {H : Heap} {locs : List Loc} {cells slots : Nat} (C : am_Ctx sc k m p l base b D cy R s mid meth c H locs cells slots) : c.code = am_b k := C.2.2.2.1.1
theorem am_C.own {sc : Nat × (Nat → Int32)} {k : Nat} {m : am_Mem} {p : Program} {l : Launch} {base b : Nat} {D : va_G} {cy : Nat → ClassId} {R : Room} {s : State} {mid : MethodId} {meth : Method} {c : Code} {H : Heap} {locs : List Loc} {cells slots : Nat} (C : am_Ctx sc k m p l base b D cy R s mid meth c H locs cells slots) : s.vm.findClass (am_y k).cls = some mid.cls := C.2.2.2.1.2.2.2.2.1
theorem am_C.w {sc : Nat × (Nat → Int32)} {k : Nat} {m : am_Mem} {p : Program} {l : Launch} {base b : Nat} {D : va_G} {cy : Nat → ClassId} {R : Room} {s : State} {mid : MethodId} {meth : Method} {c : Code} {H : Heap} {locs : List Loc} {cells slots : Nat} (C : am_Ctx sc k m p l base b D cy R s mid meth c H locs cells slots) {w : Cond} (h : w ∈ lw_tbl) (hg : goodWord w = true) {args : Array Value} : w.before args s = true := C.2.2.1.1 w h hg args
theorem am_iadd {sc : Nat × (Nat → Int32)} {k pc q : Nat} {ls st : List Value} {m : am_Mem} {Q : am_Out → am_Mem → Prop} {x y : Int32}  (hd : am_at k pc .iadd 1 q) (h : am_W sc k q ls (.int (x + y) :: st) m Q) : am_W sc k pc ls (.int y :: .int x :: st) m Q := by
  obtain ⟨hd, rfl⟩ := hd
  intro p l e base b D cy R s mid args below meth c H locs cells slots la C hla
  exact lv_iadd (rest := st.map (am_sh base b)) C.1 (am_C.b C) hd (h p l e base b D cy R s mid args below meth c H locs cells slots la C hla)
theorem am_isub {sc : Nat × (Nat → Int32)} {k pc q : Nat} {ls st : List Value} {m : am_Mem} {Q : am_Out → am_Mem → Prop} {x y : Int32}  (hd : am_at k pc .isub 1 q) (h : am_W sc k q ls (.int (x - y) :: st) m Q) : am_W sc k pc ls (.int y :: .int x :: st) m Q := by
  obtain ⟨hd, rfl⟩ := hd
  intro p l e base b D cy R s mid args below meth c H locs cells slots la C hla
  exact lv_isub (rest := st.map (am_sh base b)) C.1 (am_C.b C) hd (h p l e base b D cy R s mid args below meth c H locs cells slots la C hla)
theorem am_imul {sc : Nat × (Nat → Int32)} {k pc q : Nat} {ls st : List Value} {m : am_Mem} {Q : am_Out → am_Mem → Prop} {x y : Int32}  (hd : am_at k pc .imul 1 q) (h : am_W sc k q ls (.int (x * y) :: st) m Q) : am_W sc k pc ls (.int y :: .int x :: st) m Q := by
  obtain ⟨hd, rfl⟩ := hd
  intro p l e base b D cy R s mid args below meth c H locs cells slots la C hla
  exact lv_imul (rest := st.map (am_sh base b)) C.1 (am_C.b C) hd (h p l e base b D cy R s mid args below meth c H locs cells slots la C hla)
theorem am_iand {sc : Nat × (Nat → Int32)} {k pc q : Nat} {ls st : List Value} {m : am_Mem} {Q : am_Out → am_Mem → Prop} {x y : Int32}  (hd : am_at k pc .iand 1 q) (h : am_W sc k q ls (.int (x &&& y) :: st) m Q) : am_W sc k pc ls (.int y :: .int x :: st) m Q := by
  obtain ⟨hd, rfl⟩ := hd
  intro p l e base b D cy R s mid args below meth c H locs cells slots la C hla
  exact lv_iand (rest := st.map (am_sh base b)) C.1 (am_C.b C) hd (h p l e base b D cy R s mid args below meth c H locs cells slots la C hla)
theorem am_irem {sc : Nat × (Nat → Int32)} {k pc q : Nat} {ls st : List Value} {m : am_Mem} {Q : am_Out → am_Mem → Prop} {x y : Int32} (hne : ¬ y = 0) (hd : am_at k pc .irem 1 q) (h : am_W sc k q ls (.int (x - x / y * y) :: st) m Q) : am_W sc k pc ls (.int y :: .int x :: st) m Q := by
  obtain ⟨hd, rfl⟩ := hd
  intro p l e base b D cy R s mid args below meth c H locs cells slots la C hla
  exact lv_irem (rest := st.map (am_sh base b)) C.1 (am_C.b C) hd hne (h p l e base b D cy R s mid args below meth c H locs cells slots la C hla)
theorem am_ladd {sc : Nat × (Nat → Int32)} {k pc q : Nat} {ls st : List Value} {m : am_Mem} {Q : am_Out → am_Mem → Prop} {x y : Int64}  (hd : am_at k pc .ladd 1 q) (h : am_W sc k q ls (.long (x + y) :: st) m Q) : am_W sc k pc ls (.long y :: .long x :: st) m Q := by
  obtain ⟨hd, rfl⟩ := hd
  intro p l e base b D cy R s mid args below meth c H locs cells slots la C hla
  exact lv_ladd (rest := st.map (am_sh base b)) C.1 (am_C.b C) hd (h p l e base b D cy R s mid args below meth c H locs cells slots la C hla)
theorem am_lmul {sc : Nat × (Nat → Int32)} {k pc q : Nat} {ls st : List Value} {m : am_Mem} {Q : am_Out → am_Mem → Prop} {x y : Int64}  (hd : am_at k pc .lmul 1 q) (h : am_W sc k q ls (.long (x * y) :: st) m Q) : am_W sc k pc ls (.long y :: .long x :: st) m Q := by
  obtain ⟨hd, rfl⟩ := hd
  intro p l e base b D cy R s mid args below meth c H locs cells slots la C hla
  exact lv_lmul (rest := st.map (am_sh base b)) C.1 (am_C.b C) hd (h p l e base b D cy R s mid args below meth c H locs cells slots la C hla)
theorem am_land {sc : Nat × (Nat → Int32)} {k pc q : Nat} {ls st : List Value} {m : am_Mem} {Q : am_Out → am_Mem → Prop} {x y : Int64}  (hd : am_at k pc .land 1 q) (h : am_W sc k q ls (.long (x &&& y) :: st) m Q) : am_W sc k pc ls (.long y :: .long x :: st) m Q := by
  obtain ⟨hd, rfl⟩ := hd
  intro p l e base b D cy R s mid args below meth c H locs cells slots la C hla
  exact lv_land (rest := st.map (am_sh base b)) C.1 (am_C.b C) hd (h p l e base b D cy R s mid args below meth c H locs cells slots la C hla)
theorem am_lor {sc : Nat × (Nat → Int32)} {k pc q : Nat} {ls st : List Value} {m : am_Mem} {Q : am_Out → am_Mem → Prop} {x y : Int64}  (hd : am_at k pc .lor 1 q) (h : am_W sc k q ls (.long (x ||| y) :: st) m Q) : am_W sc k pc ls (.long y :: .long x :: st) m Q := by
  obtain ⟨hd, rfl⟩ := hd
  intro p l e base b D cy R s mid args below meth c H locs cells slots la C hla
  exact lv_lor (rest := st.map (am_sh base b)) C.1 (am_C.b C) hd (h p l e base b D cy R s mid args below meth c H locs cells slots la C hla)
theorem am_lushr {sc : Nat × (Nat → Int32)} {k pc q : Nat} {ls st : List Value} {m : am_Mem} {Q : am_Out → am_Mem → Prop} {x : Int64} {y : Int32}  (hd : am_at k pc .lushr 1 q) (h : am_W sc k q ls (.long ((x.toUInt64 >>> (y.toInt64.toUInt64 &&& Int64.toUInt64 63)).toInt64) :: st) m Q) : am_W sc k pc ls (.int y :: .long x :: st) m Q := by
  obtain ⟨hd, rfl⟩ := hd
  intro p l e base b D cy R s mid args below meth c H locs cells slots la C hla
  exact lv_lushr (rest := st.map (am_sh base b)) C.1 (am_C.b C) hd rfl (h p l e base b D cy R s mid args below meth c H locs cells slots la C hla)
theorem am_lshl {sc : Nat × (Nat → Int32)} {k pc q : Nat} {ls st : List Value} {m : am_Mem} {Q : am_Out → am_Mem → Prop} {x : Int64} {y : Int32}  (hd : am_at k pc .lshl 1 q) (h : am_W sc k q ls (.long (x <<< (y.toInt64 &&& 63)) :: st) m Q) : am_W sc k pc ls (.int y :: .long x :: st) m Q := by
  obtain ⟨hd, rfl⟩ := hd
  intro p l e base b D cy R s mid args below meth c H locs cells slots la C hla
  exact lv_lshl (rest := st.map (am_sh base b)) C.1 (am_C.b C) hd rfl (h p l e base b D cy R s mid args below meth c H locs cells slots la C hla)
theorem am_lshr {sc : Nat × (Nat → Int32)} {k pc q : Nat} {ls st : List Value} {m : am_Mem} {Q : am_Out → am_Mem → Prop} {x : Int64} {y : Int32}  (hd : am_at k pc .lshr 1 q) (h : am_W sc k q ls (.long (x >>> (y.toInt64 &&& 63)) :: st) m Q) : am_W sc k pc ls (.int y :: .long x :: st) m Q := by
  obtain ⟨hd, rfl⟩ := hd
  intro p l e base b D cy R s mid args below meth c H locs cells slots la C hla
  exact lv_lshr (rest := st.map (am_sh base b)) C.1 (am_C.b C) hd rfl (h p l e base b D cy R s mid args below meth c H locs cells slots la C hla)
theorem am_lcmp {sc : Nat × (Nat → Int32)} {k pc q : Nat} {ls st : List Value} {m : am_Mem} {Q : am_Out → am_Mem → Prop} {x y : Int64}  (hd : am_at k pc .lcmp 1 q) (h : am_W sc k q ls (.int (lg_cmp x y) :: st) m Q) : am_W sc k pc ls (.long y :: .long x :: st) m Q := by
  obtain ⟨hd, rfl⟩ := hd
  intro p l e base b D cy R s mid args below meth c H locs cells slots la C hla
  exact W.lcmp (rest := st.map (am_sh base b)) C.1 (am_C.b C) hd (h p l e base b D cy R s mid args below meth c H locs cells slots la C hla)
theorem am_i2l {sc : Nat × (Nat → Int32)} {k pc q : Nat} {ls st : List Value} {m : am_Mem} {Q : am_Out → am_Mem → Prop} {x : Int32}  (hd : am_at k pc .i2l 1 q) (h : am_W sc k q ls (.long x.toInt64 :: st) m Q) : am_W sc k pc ls (.int x :: st) m Q := by
  obtain ⟨hd, rfl⟩ := hd
  intro p l e base b D cy R s mid args below meth c H locs cells slots la C hla
  exact lv_i2l (rest := st.map (am_sh base b)) C.1 (am_C.b C) hd rfl (h p l e base b D cy R s mid args below meth c H locs cells slots la C hla)
theorem am_l2i {sc : Nat × (Nat → Int32)} {k pc q : Nat} {ls st : List Value} {m : am_Mem} {Q : am_Out → am_Mem → Prop} {x : Int64}  (hd : am_at k pc .l2i 1 q) (h : am_W sc k q ls (.int x.toInt32 :: st) m Q) : am_W sc k pc ls (.long x :: st) m Q := by
  obtain ⟨hd, rfl⟩ := hd
  intro p l e base b D cy R s mid args below meth c H locs cells slots la C hla
  exact lv_l2i (rest := st.map (am_sh base b)) C.1 (am_C.b C) hd rfl (h p l e base b D cy R s mid args below meth c H locs cells slots la C hla)
theorem am_iconst {sc : Nat × (Nat → Int32)} {k pc q : Nat} {ls st : List Value} {m : am_Mem} {Q : am_Out → am_Mem → Prop} {i : Int} {v : Int32} (hv : Int32.ofInt i = v) (hd : am_at k pc (.iconst i) 1 q) (h : am_W sc k q ls (.int v :: st) m Q) : am_W sc k pc ls (st) m Q := by
  obtain ⟨hd, rfl⟩ := hd
  intro p l e base b D cy R s mid args below meth c H locs cells slots la C hla
  exact lv_iconst (rest := st.map (am_sh base b)) C.1 (am_C.b C) hd hv (h p l e base b D cy R s mid args below meth c H locs cells slots la C hla)
theorem am_bipush {sc : Nat × (Nat → Int32)} {k pc q : Nat} {ls st : List Value} {m : am_Mem} {Q : am_Out → am_Mem → Prop} {i : Int} {v : Int32} (hv : (Int8.ofInt i).toInt32 = v) (hd : am_at k pc (.bipush i) 2 q) (h : am_W sc k q ls (.int v :: st) m Q) : am_W sc k pc ls (st) m Q := by
  obtain ⟨hd, rfl⟩ := hd
  intro p l e base b D cy R s mid args below meth c H locs cells slots la C hla
  exact lv_bipush (rest := st.map (am_sh base b)) C.1 (am_C.b C) hd hv (h p l e base b D cy R s mid args below meth c H locs cells slots la C hla)
theorem am_sipush {sc : Nat × (Nat → Int32)} {k pc q : Nat} {ls st : List Value} {m : am_Mem} {Q : am_Out → am_Mem → Prop} {i : Int} {v : Int32} (hv : (Int16.ofInt i).toInt32 = v) (hd : am_at k pc (.sipush i) 3 q) (h : am_W sc k q ls (.int v :: st) m Q) : am_W sc k pc ls (st) m Q := by
  obtain ⟨hd, rfl⟩ := hd
  intro p l e base b D cy R s mid args below meth c H locs cells slots la C hla
  exact lv_sipush (rest := st.map (am_sh base b)) C.1 (am_C.b C) hd hv (h p l e base b D cy R s mid args below meth c H locs cells slots la C hla)
theorem am_lconst {sc : Nat × (Nat → Int32)} {k pc q : Nat} {ls st : List Value} {m : am_Mem} {Q : am_Out → am_Mem → Prop} {i : Fin 2} {v : Int64} (hv : Int64.ofNat (i : Nat) = v) (hd : am_at k pc (.lconst i) 1 q) (h : am_W sc k q ls (.long v :: st) m Q) : am_W sc k pc ls (st) m Q := by
  obtain ⟨hd, rfl⟩ := hd
  intro p l e base b D cy R s mid args below meth c H locs cells slots la C hla
  exact lv_lconst (rest := st.map (am_sh base b)) C.1 (am_C.b C) hd hv (h p l e base b D cy R s mid args below meth c H locs cells slots la C hla)
theorem am_ldc {sc : Nat × (Nat → Int32)} {k pc q : Nat} {ls st : List Value} {m : am_Mem} {Q : am_Out → am_Mem → Prop} {i : Nat} {v : Int32} (hw : Cond.constant (am_y k).cls i v ∈ lw_tbl) (hd : am_at k pc (.ldc i) 2 q) (h : am_W sc k q ls (.int v :: st) m Q) : am_W sc k pc ls (st) m Q := by
  obtain ⟨hd, rfl⟩ := hd
  intro p l e base b D cy R s mid args below meth c H locs cells slots la C hla
  exact lv_ldc (own := (am_y k).cls) (rest := st.map (am_sh base b)) C.1 (am_C.b C) (am_C.own C) (am_C.w C hw rfl) hd (h p l e base b D cy R s mid args below meth c H locs cells slots la C hla)
theorem am_ldc2 {sc : Nat × (Nat → Int32)} {k pc q : Nat} {ls st : List Value} {m : am_Mem} {Q : am_Out → am_Mem → Prop} {i : Nat} {v : Int64} (hw : Cond.constantLong (am_y k).cls i v ∈ lw_tbl) (hd : am_at k pc (.ldc2_w i) 3 q) (h : am_W sc k q ls (.long v :: st) m Q) : am_W sc k pc ls (st) m Q := by
  obtain ⟨hd, rfl⟩ := hd
  intro p l e base b D cy R s mid args below meth c H locs cells slots la C hla
  exact lv_ldc2 (own := (am_y k).cls) (rest := st.map (am_sh base b)) C.1 (am_C.b C) (am_C.own C) (am_C.w C hw rfl) hd (h p l e base b D cy R s mid args below meth c H locs cells slots la C hla)
theorem am_null {sc : Nat × (Nat → Int32)} {k pc q : Nat} {ls st : List Value} {m : am_Mem} {Q : am_Out → am_Mem → Prop}   (hd : am_at k pc .aconst_null 1 q) (h : am_W sc k q ls (.ref 0 :: st) m Q) : am_W sc k pc ls (st) m Q := by
  obtain ⟨hd, rfl⟩ := hd
  intro p l e base b D cy R s mid args below meth c H locs cells slots la C hla
  exact lv_null (rest := st.map (am_sh base b)) C.1 (am_C.b C) hd (h p l e base b D cy R s mid args below meth c H locs cells slots la C hla)
theorem am_sh_cat (base b : Nat) (v : Value) : (am_sh base b v).category = v.category := by
  cases v with
  | ref x => cases x <;> rfl
  | _ => rfl
theorem am_dup {sc : Nat × (Nat → Int32)} {k pc q : Nat} {ls st : List Value} {m : am_Mem} {Q : am_Out → am_Mem → Prop} {v : Value} (hd : am_at k pc .dup 1 q) (hv : v.category = 1) (h : am_W sc k q ls (v :: v :: st) m Q) : am_W sc k pc ls (v :: st) m Q := by
  obtain ⟨hd, rfl⟩ := hd
  intro p l e base b D cy R s mid args below meth c H locs cells slots la C hla
  exact lv_dup (rest := st.map (am_sh base b)) C.1 (am_C.b C) hd (by rw [am_sh_cat]; exact hv) (h p l e base b D cy R s mid args below meth c H locs cells slots la C hla)
theorem am_dup2 {sc : Nat × (Nat → Int32)} {k pc q : Nat} {ls st : List Value} {m : am_Mem} {Q : am_Out → am_Mem → Prop} {v w : Value} (hd : am_at k pc .dup2 1 q) (hv : v.category = 1) (hw : w.category = 1) (h : am_W sc k q ls (v :: w :: v :: w :: st) m Q) : am_W sc k pc ls (v :: w :: st) m Q := by
  obtain ⟨hd, rfl⟩ := hd
  intro p l e base b D cy R s mid args below meth c H locs cells slots la C hla
  exact lv_dup2_11 (rest := st.map (am_sh base b)) C.1 (am_C.b C) hd (by rw [am_sh_cat]; exact hv) (by rw [am_sh_cat]; exact hw) (h p l e base b D cy R s mid args below meth c H locs cells slots la C hla)
/-- a jump: where it goes, where the next one stands -/
def am_jp (k pc : Nat) (i : Instr) (off : Int) (tgt q : Nat) : Prop := decode (am_b k) pc = .ok (i, 3) ∧ (pc : Int) + off = (tgt : Int) ∧ pc + 3 = q
theorem am_goto {sc : Nat × (Nat → Int32)} {k pc q : Nat} {ls st : List Value} {m : am_Mem} {Q : am_Out → am_Mem → Prop} {off : Int} {tgt : Nat} (hd : am_jp k pc (.goto off) off tgt q) (h : am_W sc k tgt ls st m Q) : am_W sc k pc ls st m Q := by
  obtain ⟨hd, ht, rfl⟩ := hd
  intro p l e base b D cy R s mid args below meth c H locs cells slots la C hla
  exact lv_goto (rest := st.map (am_sh base b)) C.1 (am_C.b C) hd ht (h p l e base b D cy R s mid args below meth c H locs cells slots la C hla)
theorem am_if_eq {sc : Nat × (Nat → Int32)} {k pc q : Nat} {ls st : List Value} {m : am_Mem} {Q : am_Out → am_Mem → Prop} {x : Int32} {off : Int} {tgt : Nat} (hd : am_jp k pc (.ifCond .eq off) off tgt q) (ht : x = 0 → am_W sc k tgt ls st m Q) (hf : ¬ x = 0 → am_W sc k q ls st m Q) : am_W sc k pc ls (.int x :: st) m Q := by
  obtain ⟨hd, hg, rfl⟩ := hd
  intro p l e base b D cy R s mid args below meth c H locs cells slots la C hla
  exact lv_if_eq (rest := st.map (am_sh base b)) C.1 (am_C.b C) hd hg (fun hc => ht hc p l e base b D cy R s mid args below meth c H locs cells slots la C hla) (fun hc => hf hc p l e base b D cy R s mid args below meth c H locs cells slots la C hla)
theorem am_icmp_eq {sc : Nat × (Nat → Int32)} {k pc q : Nat} {ls st : List Value} {m : am_Mem} {Q : am_Out → am_Mem → Prop} {x y : Int32} {off : Int} {tgt : Nat} (hd : am_jp k pc (.if_icmp .eq off) off tgt q) (ht : x = y → am_W sc k tgt ls st m Q) (hf : ¬ x = y → am_W sc k q ls st m Q) : am_W sc k pc ls (.int y :: .int x :: st) m Q := by
  obtain ⟨hd, hg, rfl⟩ := hd
  intro p l e base b D cy R s mid args below meth c H locs cells slots la C hla
  exact lv_icmp_eq (rest := st.map (am_sh base b)) C.1 (am_C.b C) hd hg (fun hc => ht hc p l e base b D cy R s mid args below meth c H locs cells slots la C hla) (fun hc => hf hc p l e base b D cy R s mid args below meth c H locs cells slots la C hla)
theorem am_if_ne {sc : Nat × (Nat → Int32)} {k pc q : Nat} {ls st : List Value} {m : am_Mem} {Q : am_Out → am_Mem → Prop} {x : Int32} {off : Int} {tgt : Nat} (hd : am_jp k pc (.ifCond .ne off) off tgt q) (ht : ¬ x = 0 → am_W sc k tgt ls st m Q) (hf : x = 0 → am_W sc k q ls st m Q) : am_W sc k pc ls (.int x :: st) m Q := by
  obtain ⟨hd, hg, rfl⟩ := hd
  intro p l e base b D cy R s mid args below meth c H locs cells slots la C hla
  exact lv_if_ne (rest := st.map (am_sh base b)) C.1 (am_C.b C) hd hg (fun hc => ht hc p l e base b D cy R s mid args below meth c H locs cells slots la C hla) (fun hc => hf hc p l e base b D cy R s mid args below meth c H locs cells slots la C hla)
theorem am_icmp_ne {sc : Nat × (Nat → Int32)} {k pc q : Nat} {ls st : List Value} {m : am_Mem} {Q : am_Out → am_Mem → Prop} {x y : Int32} {off : Int} {tgt : Nat} (hd : am_jp k pc (.if_icmp .ne off) off tgt q) (ht : ¬ x = y → am_W sc k tgt ls st m Q) (hf : x = y → am_W sc k q ls st m Q) : am_W sc k pc ls (.int y :: .int x :: st) m Q := by
  obtain ⟨hd, hg, rfl⟩ := hd
  intro p l e base b D cy R s mid args below meth c H locs cells slots la C hla
  exact lv_icmp_ne (rest := st.map (am_sh base b)) C.1 (am_C.b C) hd hg (fun hc => ht hc p l e base b D cy R s mid args below meth c H locs cells slots la C hla) (fun hc => hf hc p l e base b D cy R s mid args below meth c H locs cells slots la C hla)
theorem am_if_lt {sc : Nat × (Nat → Int32)} {k pc q : Nat} {ls st : List Value} {m : am_Mem} {Q : am_Out → am_Mem → Prop} {x : Int32} {off : Int} {tgt : Nat} (hd : am_jp k pc (.ifCond .lt off) off tgt q) (ht : x < 0 → am_W sc k tgt ls st m Q) (hf : ¬ x < 0 → am_W sc k q ls st m Q) : am_W sc k pc ls (.int x :: st) m Q := by
  obtain ⟨hd, hg, rfl⟩ := hd
  intro p l e base b D cy R s mid args below meth c H locs cells slots la C hla
  exact lv_if_lt (rest := st.map (am_sh base b)) C.1 (am_C.b C) hd hg (fun hc => ht hc p l e base b D cy R s mid args below meth c H locs cells slots la C hla) (fun hc => hf hc p l e base b D cy R s mid args below meth c H locs cells slots la C hla)
theorem am_icmp_lt {sc : Nat × (Nat → Int32)} {k pc q : Nat} {ls st : List Value} {m : am_Mem} {Q : am_Out → am_Mem → Prop} {x y : Int32} {off : Int} {tgt : Nat} (hd : am_jp k pc (.if_icmp .lt off) off tgt q) (ht : x < y → am_W sc k tgt ls st m Q) (hf : ¬ x < y → am_W sc k q ls st m Q) : am_W sc k pc ls (.int y :: .int x :: st) m Q := by
  obtain ⟨hd, hg, rfl⟩ := hd
  intro p l e base b D cy R s mid args below meth c H locs cells slots la C hla
  exact lv_icmp_lt (rest := st.map (am_sh base b)) C.1 (am_C.b C) hd hg (fun hc => ht hc p l e base b D cy R s mid args below meth c H locs cells slots la C hla) (fun hc => hf hc p l e base b D cy R s mid args below meth c H locs cells slots la C hla)
theorem am_if_ge {sc : Nat × (Nat → Int32)} {k pc q : Nat} {ls st : List Value} {m : am_Mem} {Q : am_Out → am_Mem → Prop} {x : Int32} {off : Int} {tgt : Nat} (hd : am_jp k pc (.ifCond .ge off) off tgt q) (ht : 0 ≤ x → am_W sc k tgt ls st m Q) (hf : ¬ 0 ≤ x → am_W sc k q ls st m Q) : am_W sc k pc ls (.int x :: st) m Q := by
  obtain ⟨hd, hg, rfl⟩ := hd
  intro p l e base b D cy R s mid args below meth c H locs cells slots la C hla
  exact lv_if_ge (rest := st.map (am_sh base b)) C.1 (am_C.b C) hd hg (fun hc => ht hc p l e base b D cy R s mid args below meth c H locs cells slots la C hla) (fun hc => hf hc p l e base b D cy R s mid args below meth c H locs cells slots la C hla)
theorem am_icmp_ge {sc : Nat × (Nat → Int32)} {k pc q : Nat} {ls st : List Value} {m : am_Mem} {Q : am_Out → am_Mem → Prop} {x y : Int32} {off : Int} {tgt : Nat} (hd : am_jp k pc (.if_icmp .ge off) off tgt q) (ht : y ≤ x → am_W sc k tgt ls st m Q) (hf : ¬ y ≤ x → am_W sc k q ls st m Q) : am_W sc k pc ls (.int y :: .int x :: st) m Q := by
  obtain ⟨hd, hg, rfl⟩ := hd
  intro p l e base b D cy R s mid args below meth c H locs cells slots la C hla
  exact lv_icmp_ge (rest := st.map (am_sh base b)) C.1 (am_C.b C) hd hg (fun hc => ht hc p l e base b D cy R s mid args below meth c H locs cells slots la C hla) (fun hc => hf hc p l e base b D cy R s mid args below meth c H locs cells slots la C hla)
theorem am_if_gt {sc : Nat × (Nat → Int32)} {k pc q : Nat} {ls st : List Value} {m : am_Mem} {Q : am_Out → am_Mem → Prop} {x : Int32} {off : Int} {tgt : Nat} (hd : am_jp k pc (.ifCond .gt off) off tgt q) (ht : 0 < x → am_W sc k tgt ls st m Q) (hf : ¬ 0 < x → am_W sc k q ls st m Q) : am_W sc k pc ls (.int x :: st) m Q := by
  obtain ⟨hd, hg, rfl⟩ := hd
  intro p l e base b D cy R s mid args below meth c H locs cells slots la C hla
  exact lv_if_gt (rest := st.map (am_sh base b)) C.1 (am_C.b C) hd hg (fun hc => ht hc p l e base b D cy R s mid args below meth c H locs cells slots la C hla) (fun hc => hf hc p l e base b D cy R s mid args below meth c H locs cells slots la C hla)
theorem am_icmp_gt {sc : Nat × (Nat → Int32)} {k pc q : Nat} {ls st : List Value} {m : am_Mem} {Q : am_Out → am_Mem → Prop} {x y : Int32} {off : Int} {tgt : Nat} (hd : am_jp k pc (.if_icmp .gt off) off tgt q) (ht : y < x → am_W sc k tgt ls st m Q) (hf : ¬ y < x → am_W sc k q ls st m Q) : am_W sc k pc ls (.int y :: .int x :: st) m Q := by
  obtain ⟨hd, hg, rfl⟩ := hd
  intro p l e base b D cy R s mid args below meth c H locs cells slots la C hla
  exact lv_icmp_gt (rest := st.map (am_sh base b)) C.1 (am_C.b C) hd hg (fun hc => ht hc p l e base b D cy R s mid args below meth c H locs cells slots la C hla) (fun hc => hf hc p l e base b D cy R s mid args below meth c H locs cells slots la C hla)
theorem am_if_le {sc : Nat × (Nat → Int32)} {k pc q : Nat} {ls st : List Value} {m : am_Mem} {Q : am_Out → am_Mem → Prop} {x : Int32} {off : Int} {tgt : Nat} (hd : am_jp k pc (.ifCond .le off) off tgt q) (ht : x ≤ 0 → am_W sc k tgt ls st m Q) (hf : ¬ x ≤ 0 → am_W sc k q ls st m Q) : am_W sc k pc ls (.int x :: st) m Q := by
  obtain ⟨hd, hg, rfl⟩ := hd
  intro p l e base b D cy R s mid args below meth c H locs cells slots la C hla
  exact lv_if_le (rest := st.map (am_sh base b)) C.1 (am_C.b C) hd hg (fun hc => ht hc p l e base b D cy R s mid args below meth c H locs cells slots la C hla) (fun hc => hf hc p l e base b D cy R s mid args below meth c H locs cells slots la C hla)
theorem am_icmp_le {sc : Nat × (Nat → Int32)} {k pc q : Nat} {ls st : List Value} {m : am_Mem} {Q : am_Out → am_Mem → Prop} {x y : Int32} {off : Int} {tgt : Nat} (hd : am_jp k pc (.if_icmp .le off) off tgt q) (ht : x ≤ y → am_W sc k tgt ls st m Q) (hf : ¬ x ≤ y → am_W sc k q ls st m Q) : am_W sc k pc ls (.int y :: .int x :: st) m Q := by
  obtain ⟨hd, hg, rfl⟩ := hd
  intro p l e base b D cy R s mid args below meth c H locs cells slots la C hla
  exact lv_icmp_le (rest := st.map (am_sh base b)) C.1 (am_C.b C) hd hg (fun hc => ht hc p l e base b D cy R s mid args below meth c H locs cells slots la C hla) (fun hc => hf hc p l e base b D cy R s mid args below meth c H locs cells slots la C hla)
theorem am_ifnonnull {sc : Nat × (Nat → Int32)} {k pc q : Nat} {ls st : List Value} {m : am_Mem} {Q : am_Out → am_Mem → Prop} {x : Nat} {off : Int} {tgt : Nat} (hd : am_jp k pc (.ifnonnull off) off tgt q) (ht : ¬ x = 0 → am_W sc k tgt ls st m Q) (hf : x = 0 → am_W sc k q ls st m Q) : am_W sc k pc ls (.ref x :: st) m Q := by
  obtain ⟨hd, hg, rfl⟩ := hd
  intro p l e base b D cy R s mid args below meth c H locs cells slots la C hla
  cases x with
  | zero => exact lv_ifnonnullN (rest := st.map (am_sh base b)) C.1 (am_C.b C) hd (hf rfl p l e base b D cy R s mid args below meth c H locs cells slots la C hla)
  | succ x => exact lv_ifnonnull (rest := st.map (am_sh base b)) C.1 (am_C.b C) hd hg (ht (Nat.succ_ne_zero x) p l e base b D cy R s mid args below meth c H locs cells slots la C hla)
theorem am_tIn {sc : Nat × (Nat → Int32)} {k pc q : Nat} {ls st : List Value} {m : am_Mem} {Q : am_Out → am_Mem → Prop} {dflt lo hi : Int} {offs : Array Int} {len : Nat} {x : Int32} {off : Int} (tgt : Nat) (hd : decode (am_b k) pc = .ok (.tableswitch dflt lo hi offs, len)) (h1 : ¬ x.toInt < lo) (h2 : ¬ hi < x.toInt) (ho : offs[(x.toInt - lo).toNat]? = some off) (ht : (pc : Int) + off = (tgt : Int)) (h : am_W sc k tgt ls st m Q) : am_W sc k pc ls (.int x :: st) m Q := by
  intro p l e base b D cy R s mid args below meth c H locs cells slots la C hla
  exact lv_tableIn (rest := st.map (am_sh base b)) C.1 (am_C.b C) hd h1 h2 ho ht (h p l e base b D cy R s mid args below meth c H locs cells slots la C hla)
theorem am_tOut {sc : Nat × (Nat → Int32)} {k pc q : Nat} {ls st : List Value} {m : am_Mem} {Q : am_Out → am_Mem → Prop} {dflt lo hi : Int} {offs : Array Int} {len : Nat} {x : Int32} (tgt : Nat) (hd : decode (am_b k) pc = .ok (.tableswitch dflt lo hi offs, len)) (ho : x.toInt < lo ∨ hi < x.toInt) (ht : (pc : Int) + dflt = (tgt : Int)) (h : am_W sc k tgt ls st m Q) : am_W sc k pc ls (.int x :: st) m Q := by
  intro p l e base b D cy R s mid args below meth c H locs cells slots la C hla
  exact lv_tableOut (rest := st.map (am_sh base b)) C.1 (am_C.b C) hd ho ht (h p l e base b D cy R s mid args below meth c H locs cells slots la C hla)
theorem am_iload {sc : Nat × (Nat → Int32)} {k pc q : Nat} {ls st : List Value} {m : am_Mem} {Q : am_Out → am_Mem → Prop} {i : Nat} {x : Int32} (hd : am_at k pc (.iload i) 2 q) (hl : ls[i]? = some (.int x)) (h : am_W sc k q ls (.int x :: st) m Q) : am_W sc k pc ls st m Q := by
  obtain ⟨hd, rfl⟩ := hd
  intro p l e base b D cy R s mid args below meth c H locs cells slots la C hla
  exact lv_iload (rest := st.map (am_sh base b)) C.1 (am_C.b C) hd (hla.2.2 i _ hl rfl) (h p l e base b D cy R s mid args below meth c H locs cells slots la C hla)
theorem am_iload_n {sc : Nat × (Nat → Int32)} {k pc q : Nat} {ls st : List Value} {m : am_Mem} {Q : am_Out → am_Mem → Prop} {i : Fin 4} {j : Nat} {x : Int32} (hd : am_at k pc (.iload_n i) 1 q) (hj : (i : Nat) = j) (hl : ls[j]? = some (.int x)) (h : am_W sc k q ls (.int x :: st) m Q) : am_W sc k pc ls st m Q := by
  obtain ⟨hd, rfl⟩ := hd
  intro p l e base b D cy R s mid args below meth c H locs cells slots la C hla
  exact lv_iload_n (rest := st.map (am_sh base b)) C.1 (am_C.b C) hd hj (hla.2.2 j _ hl rfl) (h p l e base b D cy R s mid args below meth c H locs cells slots la C hla)
theorem am_lload {sc : Nat × (Nat → Int32)} {k pc q : Nat} {ls st : List Value} {m : am_Mem} {Q : am_Out → am_Mem → Prop} {i : Nat} {x : Int64} (hd : am_at k pc (.lload i) 2 q) (hl : ls[i]? = some (.long x)) (h : am_W sc k q ls (.long x :: st) m Q) : am_W sc k pc ls st m Q := by
  obtain ⟨hd, rfl⟩ := hd
  intro p l e base b D cy R s mid args below meth c H locs cells slots la C hla
  exact lv_lload (rest := st.map (am_sh base b)) C.1 (am_C.b C) hd (hla.2.2 i _ hl rfl) (h p l e base b D cy R s mid args below meth c H locs cells slots la C hla)
theorem am_lload_n {sc : Nat × (Nat → Int32)} {k pc q : Nat} {ls st : List Value} {m : am_Mem} {Q : am_Out → am_Mem → Prop} {i : Fin 4} {j : Nat} {x : Int64} (hd : am_at k pc (.lload_n i) 1 q) (hj : (i : Nat) = j) (hl : ls[j]? = some (.long x)) (h : am_W sc k q ls (.long x :: st) m Q) : am_W sc k pc ls st m Q := by
  obtain ⟨hd, rfl⟩ := hd
  intro p l e base b D cy R s mid args below meth c H locs cells slots la C hla
  exact lv_lload_n (rest := st.map (am_sh base b)) C.1 (am_C.b C) hd hj (hla.2.2 j _ hl rfl) (h p l e base b D cy R s mid args below meth c H locs cells slots la C hla)
theorem am_aload {sc : Nat × (Nat → Int32)} {k pc q : Nat} {ls st : List Value} {m : am_Mem} {Q : am_Out → am_Mem → Prop} {i : Nat} {x : Nat} (hd : am_at k pc (.aload i) 2 q)  (hl : ls[i]? = some (.ref x)) (h : am_W sc k q ls (.ref x :: st) m Q) : am_W sc k pc ls st m Q := by
  obtain ⟨hd, rfl⟩ := hd
  intro p l e base b D cy R s mid args below meth c H locs cells slots la C hla
  cases x with
  | zero => exact lv_aloadN (rest := st.map (am_sh base b)) C.1 (am_C.b C) hd (hla.2.2 i _ hl rfl) (h p l e base b D cy R s mid args below meth c H locs cells slots la C hla)
  | succ x => exact lv_aload (rest := st.map (am_sh base b)) C.1 (am_C.b C) hd (hla.2.2 i _ hl rfl) (h p l e base b D cy R s mid args below meth c H locs cells slots la C hla)
theorem am_sload {sc : Nat × (Nat → Int32)} {k pc q : Nat} {ls st : List Value} {m : am_Mem} {Q : am_Out → am_Mem → Prop} {i : Nat} (hd : am_at k pc (.aload i) 2 q)  (hl : ls[i]? = some (.retAddr 0)) (h : am_W sc k q ls (.retAddr 0 :: st) m Q) : am_W sc k pc ls st m Q := by
  obtain ⟨hd, rfl⟩ := hd
  intro p l e base b D cy R s mid args below meth c H locs cells slots la C hla
  exact lv_aload (rest := st.map (am_sh base b)) C.1 (am_C.b C) hd (hla.2.2 i _ hl rfl) (h p l e base b D cy R s mid args below meth c H locs cells slots la C hla)
theorem am_aload_n {sc : Nat × (Nat → Int32)} {k pc q : Nat} {ls st : List Value} {m : am_Mem} {Q : am_Out → am_Mem → Prop} {i : Fin 4} {j : Nat} {x : Nat} (hd : am_at k pc (.aload_n i) 1 q) (hj : (i : Nat) = j) (hl : ls[j]? = some (.ref x)) (h : am_W sc k q ls (.ref x :: st) m Q) : am_W sc k pc ls st m Q := by
  obtain ⟨hd, rfl⟩ := hd
  intro p l e base b D cy R s mid args below meth c H locs cells slots la C hla
  cases x with
  | zero => exact lv_aload_nN (rest := st.map (am_sh base b)) C.1 (am_C.b C) hd hj (hla.2.2 j _ hl rfl) (h p l e base b D cy R s mid args below meth c H locs cells slots la C hla)
  | succ x => exact lv_aload_n (rest := st.map (am_sh base b)) C.1 (am_C.b C) hd hj (hla.2.2 j _ hl rfl) (h p l e base b D cy R s mid args below meth c H locs cells slots la C hla)
theorem am_sload_n {sc : Nat × (Nat → Int32)} {k pc q : Nat} {ls st : List Value} {m : am_Mem} {Q : am_Out → am_Mem → Prop} {i : Fin 4} {j : Nat} (hd : am_at k pc (.aload_n i) 1 q) (hj : (i : Nat) = j) (hl : ls[j]? = some (.retAddr 0)) (h : am_W sc k q ls (.retAddr 0 :: st) m Q) : am_W sc k pc ls st m Q := by
  obtain ⟨hd, rfl⟩ := hd
  intro p l e base b D cy R s mid args below meth c H locs cells slots la C hla
  exact lv_aload_n (rest := st.map (am_sh base b)) C.1 (am_C.b C) hd hj (hla.2.2 j _ hl rfl) (h p l e base b D cy R s mid args below meth c H locs cells slots la C hla)
def am_ll (base b : Nat) (ls : List Value) : List (Nat × Value) := (List.range ls.length).filterMap (fun i => (ls[i]?).bind (fun v => if am_kn v = true then some (i, am_sh base b v) else none))
theorem am_ll_of {base b : Nat} {ls : List Value} {i : Nat} {v : Value} (h : ls[i]? = some v) (hk : am_kn v = true) : (i, am_sh base b v) ∈ am_ll base b ls := by
  refine List.mem_filterMap.mpr ⟨i, List.mem_range.mpr (List.getElem?_eq_some_iff.mp h).1, ?_⟩
  rw [h]
  show (if am_kn v = true then _ else _) = _
  rw [if_pos hk]
theorem am_ll_to {base b : Nat} {ls : List Value} {q : Nat × Value} (h : q ∈ am_ll base b ls) : ∃ v, ls[q.1]? = some v ∧ am_kn v = true ∧ q.2 = am_sh base b v := by
  obtain ⟨i, -, hi⟩ := List.mem_filterMap.mp h
  cases hv : ls[i]? with
  | none => rw [hv] at hi; cases hi
  | some v =>
    rw [hv] at hi
    by_cases hk : am_kn v = true
    · have h2 : (if am_kn v = true then some (i, am_sh base b v) else none) = some q := hi
      rw [if_pos hk] at h2
      cases h2
      exact ⟨v, hv, hk, rfl⟩
    · have h2 : (if am_kn v = true then some (i, am_sh base b v) else none) = some q := hi
      rw [if_neg hk] at h2
      cases h2
theorem am_ls.has {base b nL : Nat} {ls : List Value} {la : Array Slot} (h : am_ls base b ls la nL) : lv_has la nL (am_ll base b ls) :=
  ⟨h.1, h.2.1, fun q hq => by obtain ⟨v, h1, h2, h3⟩ := am_ll_to hq; rw [h3]; exact h.2.2 _ _ h1 h2⟩
/-- the place before i doesn't hold a wide value -/
def am_nw (ls : List Value) (i : Nat) : Bool := match i with
  | 0 => true
  | j + 1 => match ls[j]? with
    | some v => decide (v.category ≠ 2)
    | none => true
theorem am_nw_of {ls : List Value} {i j : Nat} {v : Value} (h : am_nw ls i = true) (hj : j + 1 = i) (hv : ls[j]? = some v) : v.category ≠ 2 := by
  subst hj
  simp only [am_nw, hv] at h
  exact of_decide_eq_true h
theorem am_ls_st1 {base b nL i : Nat} {ls : List Value} {la : Array Slot} {v : Value} (hw : am_nw ls i = true) (h : lv_has la nL ((i, am_sh base b v) :: (am_ll base b ls).filter (fun q => !(q.1 == i) && !(q.1 + 1 == i && q.2.category == 2)))) : am_ls base b (ls.set i v) la nL := by
  refine ⟨h.1, h.2.1, fun j w hj hk => ?_⟩
  by_cases hi : j = i
  · subst hi
    have h9 : (ls.set j v)[j]? = some v := by
      have hlt : j < (ls.set j v).length := (List.getElem?_eq_some_iff.mp hj).1
      rw [List.length_set] at hlt
      rw [List.getElem?_set_self hlt]
    rw [h9] at hj
    cases hj
    exact h.2.2 (j, am_sh base b v) List.mem_cons_self
  · rw [List.getElem?_set_ne (fun q => hi q.symm)] at hj
    refine h.2.2 (j, am_sh base b w) (List.mem_cons_of_mem _ (List.mem_filter.mpr ⟨am_ll_of hj hk, ?_⟩))
    have c1 : ¬ (j + 1 = i ∧ (am_sh base b w).category = 2) := fun q => am_nw_of hw q.1 hj (by rw [← am_sh_cat base b w]; exact q.2)
    simp only [Bool.and_eq_true, Bool.not_eq_true', beq_eq_false_iff_ne, ne_eq, Bool.and_eq_false_iff]
    refine ⟨hi, ?_⟩
    by_cases c2 : j + 1 = i
    · exact Or.inr (fun q => c1 ⟨c2, q⟩)
    · exact Or.inl c2
theorem am_ls_st2 {base b nL i : Nat} {ls : List Value} {la : Array Slot} {v : Value} (hw : am_nw ls i = true) (h : lv_has la nL ((i, am_sh base b v) :: (am_ll base b ls).filter (fun q => !(q.1 == i) && (!(q.1 == i + 1) && !(q.1 + 1 == i && q.2.category == 2))))) : am_ls base b ((ls.set i v).set (i + 1) (.retAddr 1)) la nL := by
  refine ⟨h.1, h.2.1, fun j w hj hk => ?_⟩
  by_cases hi1 : j = i + 1
  · subst hi1
    have hlt : i + 1 < ((ls.set i v).set (i + 1) (.retAddr 1)).length := (List.getElem?_eq_some_iff.mp hj).1
    rw [List.length_set] at hlt
    rw [List.getElem?_set_self hlt] at hj
    cases hj
    cases hk
  · rw [List.getElem?_set_ne (fun q => hi1 q.symm)] at hj
    by_cases hi : j = i
    · subst hi
      have hlt : j < (ls.set j v).length := (List.getElem?_eq_some_iff.mp hj).1
      rw [List.length_set] at hlt
      rw [List.getElem?_set_self hlt] at hj
      cases hj
      exact h.2.2 (j, am_sh base b v) List.mem_cons_self
    · rw [List.getElem?_set_ne (fun q => hi q.symm)] at hj
      refine h.2.2 (j, am_sh base b w) (List.mem_cons_of_mem _ (List.mem_filter.mpr ⟨am_ll_of hj hk, ?_⟩))
      have c1 : ¬ (j + 1 = i ∧ (am_sh base b w).category = 2) := fun q => am_nw_of hw q.1 hj (by rw [← am_sh_cat base b w]; exact q.2)
      simp only [Bool.and_eq_true, Bool.not_eq_true', beq_eq_false_iff_ne, ne_eq, Bool.and_eq_false_iff]
      refine ⟨hi, hi1, ?_⟩
      by_cases c2 : j + 1 = i
      · exact Or.inr (fun q => c1 ⟨c2, q⟩)
      · exact Or.inl c2
theorem am_istore {sc : Nat × (Nat → Int32)} {k pc q : Nat} {ls st : List Value} {m : am_Mem} {Q : am_Out → am_Mem → Prop} {i : Nat} {x : Int32} (hd : am_at k pc (.istore i) 2 q)  (hn : i < am_ml k) (hw : am_nw ls i = true) (h : am_W sc k q (ls.set i (.int x)) st m Q) : am_W sc k pc ls (.int x :: st) m Q := by
  obtain ⟨hd, rfl⟩ := hd
  intro p l e base b D cy R s mid args below meth c H locs cells slots la C hla
  exact lv_istore (rest := st.map (am_sh base b)) C.1 (am_C.b C) hd hla.has hn rfl (fun la2 hh => h p l e base b D cy R s mid args below meth c H locs cells slots la2 C (am_ls_st1 hw hh))
theorem am_lstore {sc : Nat × (Nat → Int32)} {k pc q : Nat} {ls st : List Value} {m : am_Mem} {Q : am_Out → am_Mem → Prop} {i : Nat} {x : Int64} (hd : am_at k pc (.lstore i) 2 q)  (hn : i + 1 < am_ml k) (hw : am_nw ls i = true) (h : am_W sc k q ((ls.set i (.long x)).set (i + 1) (.retAddr 1)) st m Q) : am_W sc k pc ls (.long x :: st) m Q := by
  obtain ⟨hd, rfl⟩ := hd
  intro p l e base b D cy R s mid args below meth c H locs cells slots la C hla
  exact lv_lstore (rest := st.map (am_sh base b)) C.1 (am_C.b C) hd hla.has hn rfl (fun la2 hh => h p l e base b D cy R s mid args below meth c H locs cells slots la2 C (am_ls_st2 hw hh))
theorem am_astore {sc : Nat × (Nat → Int32)} {k pc q : Nat} {ls st : List Value} {m : am_Mem} {Q : am_Out → am_Mem → Prop} {i : Nat} {x : Nat} (hd : am_at k pc (.astore i) 2 q)  (hn : i < am_ml k) (hw : am_nw ls i = true) (h : am_W sc k q (ls.set i (.ref x)) st m Q) : am_W sc k pc ls (.ref x :: st) m Q := by
  obtain ⟨hd, rfl⟩ := hd
  intro p l e base b D cy R s mid args below meth c H locs cells slots la C hla
  cases x with
  | zero => exact lv_astoreN (rest := st.map (am_sh base b)) C.1 (am_C.b C) hd hla.has hn rfl (fun la2 hh => h p l e base b D cy R s mid args below meth c H locs cells slots la2 C (am_ls_st1 hw hh))
  | succ x => exact lv_astore (rest := st.map (am_sh base b)) C.1 (am_C.b C) hd hla.has hn rfl (fun la2 hh => h p l e base b D cy R s mid args below meth c H locs cells slots la2 C (am_ls_st1 hw hh))
theorem am_istore_n {sc : Nat × (Nat → Int32)} {k pc q : Nat} {ls st : List Value} {m : am_Mem} {Q : am_Out → am_Mem → Prop} {i : Fin 4} {j : Nat} {x : Int32} (hd : am_at k pc (.istore_n i) 1 q) (hj : (i : Nat) = j) (hn : j < am_ml k) (hw : am_nw ls j = true) (h : am_W sc k q (ls.set j (.int x)) st m Q) : am_W sc k pc ls (.int x :: st) m Q := by
  obtain ⟨hd, rfl⟩ := hd
  intro p l e base b D cy R s mid args below meth c H locs cells slots la C hla
  exact lv_istore_n (rest := st.map (am_sh base b)) C.1 (am_C.b C) hd hj hla.has hn rfl (fun la2 hh => h p l e base b D cy R s mid args below meth c H locs cells slots la2 C (am_ls_st1 hw hh))
theorem am_lstore_n {sc : Nat × (Nat → Int32)} {k pc q : Nat} {ls st : List Value} {m : am_Mem} {Q : am_Out → am_Mem → Prop} {i : Fin 4} {j : Nat} {x : Int64} (hd : am_at k pc (.lstore_n i) 1 q) (hj : (i : Nat) = j) (hn : j + 1 < am_ml k) (hw : am_nw ls j = true) (h : am_W sc k q ((ls.set j (.long x)).set (j + 1) (.retAddr 1)) st m Q) : am_W sc k pc ls (.long x :: st) m Q := by
  obtain ⟨hd, rfl⟩ := hd
  intro p l e base b D cy R s mid args below meth c H locs cells slots la C hla
  exact lv_lstore_n (rest := st.map (am_sh base b)) C.1 (am_C.b C) hd hj hla.has hn rfl (fun la2 hh => h p l e base b D cy R s mid args below meth c H locs cells slots la2 C (am_ls_st2 hw hh))
theorem am_astore_n {sc : Nat × (Nat → Int32)} {k pc q : Nat} {ls st : List Value} {m : am_Mem} {Q : am_Out → am_Mem → Prop} {i : Fin 4} {j : Nat} {x : Nat} (hd : am_at k pc (.astore_n i) 1 q) (hj : (i : Nat) = j) (hn : j < am_ml k) (hw : am_nw ls j = true) (h : am_W sc k q (ls.set j (.ref x)) st m Q) : am_W sc k pc ls (.ref x :: st) m Q := by
  obtain ⟨hd, rfl⟩ := hd
  intro p l e base b D cy R s mid args below meth c H locs cells slots la C hla
  cases x with
  | zero => exact lv_astore_nN (rest := st.map (am_sh base b)) C.1 (am_C.b C) hd hj hla.has hn rfl (fun la2 hh => h p l e base b D cy R s mid args below meth c H locs cells slots la2 C (am_ls_st1 hw hh))
  | succ x => exact lv_astore_n (rest := st.map (am_sh base b)) C.1 (am_C.b C) hd hj hla.has hn rfl (fun la2 hh => h p l e base b D cy R s mid args below meth c H locs cells slots la2 C (am_ls_st1 hw hh))
theorem am_iinc {sc : Nat × (Nat → Int32)} {k pc q : Nat} {ls st : List Value} {m : am_Mem} {Q : am_Out → am_Mem → Prop} {i : Nat} {d : Int} {x v : Int32} (hd : am_at k pc (.iinc i d) 3 q) (hl : ls[i]? = some (.int x)) (hv : x + Int32.ofInt d = v) (hn : i < am_ml k) (hw : am_nw ls i = true) (h : am_W sc k q (ls.set i (.int v)) st m Q) : am_W sc k pc ls st m Q := by
  obtain ⟨hd, rfl⟩ := hd
  intro p l e base b D cy R s mid args below meth c H locs cells slots la C hla
  obtain ⟨j, hj⟩ := List.getElem?_of_mem (am_ll_of (base := base) (b := b) hl rfl)
  exact lv_iinc (rest := st.map (am_sh base b)) C.1 (am_C.b C) hd hla.has hj hv hn rfl (fun la2 hh => h p l e base b D cy R s mid args below meth c H locs cells slots la2 C (am_ls_st1 hw hh))
end
section
/-! memory and cells -/
theorem am_ws_get {base : Nat} {cy : Nat → ClassId} {m : am_Mem} {i : Nat} (h : i < am_n m) : (am_ws base cy m)[i]? = some (base + i, am_cell base cy m (i + 1)) := by
  simp [am_ws, h]
theorem am_ws_len {base : Nat} {cy : Nat → ClassId} {m : am_Mem} : (am_ws base cy m).length = am_n m := by simp [am_ws]
theorem am_ws_at {base : Nat} {cy : Nat → ClassId} {m : am_Mem} {i : Nat} {q : Nat × va_E} (h : (am_ws base cy m)[i]? = some q) : i < am_n m ∧ q = (base + i, am_cell base cy m (i + 1)) := by
  have hl : i < am_n m := by
    have := (List.getElem?_eq_some_iff.mp h).1
    rwa [am_ws_len] at this
  rw [am_ws_get hl] at h
  exact ⟨hl, (Option.some.inj h).symm⟩
theorem am_ws_D {base : Nat} {cy : Nat → ClassId} {m : am_Mem} : va_D (fun q => base ≤ q) (am_ws base cy m) := by
  refine ⟨fun i j p q hp hq e => ?_, fun k q hk => ?_⟩
  · obtain ⟨-, rfl⟩ := am_ws_at hp
    obtain ⟨-, rfl⟩ := am_ws_at hq
    have e2 : base + i = base + j := e
    omega
  · obtain ⟨-, rfl⟩ := am_ws_at hk
    exact Nat.le_add_right _ _
theorem am_K_ix {m : am_Mem} (hO : am_Ok m) {a c : Nat} (hk : am_K m a = c) (hc : c ≠ 99) : ∃ i, a = i + 1 ∧ i < am_n m := by
  cases a with
  | zero => exact absurd ((hO 0 (Or.inl rfl)).symm.trans hk).symm hc
  | succ i =>
    by_cases h : am_n m < i + 1
    · exact absurd ((hO (i + 1) (Or.inr h)).symm.trans hk).symm hc
    · exact ⟨i, rfl, by omega⟩
theorem am_fl_congr {base : Nat} {m m' : am_Mem} {a : Nat} (hI : ∀ j, am_I m' a j = am_I m a j) (hJ : ∀ j, am_J m' a j = am_J m a j) (hR : ∀ j, am_R m' a j = am_R m a j) : ∀ (ks : List Nat) (j : Nat), am_fl base m' a ks j = am_fl base m a ks j := by
  intro ks
  induction ks with
  | nil => intro j; rfl
  | cons kd r ih =>
    intro j
    have h1 : am_fv base m' a kd j = am_fv base m a kd j := by
      unfold am_fv
      rw [hI, hJ, hR]
    simp only [am_fl, h1, ih]
theorem am_cell_congr {base : Nat} {cy : Nat → ClassId} {m m' : am_Mem} {a : Nat} (hK : am_K m' a = am_K m a) (hL : am_L m' a = am_L m a) (hI : ∀ j, am_I m' a j = am_I m a j) (hJ : ∀ j, am_J m' a j = am_J m a j) (hR : ∀ j, am_R m' a j = am_R m a j) : am_cell base cy m' a = am_cell base cy m a := by
  have e1 : am_I m' a = am_I m a := funext hI
  have e2 : am_J m' a = am_J m a := funext hJ
  unfold am_cell am_ac
  simp only [hK, hL, e1, e2, hR, am_fl_congr hI hJ hR]
theorem am_fl_len {base : Nat} {m : am_Mem} {a : Nat} : ∀ (ks : List Nat) (j : Nat), (am_fl base m a ks j).length = ks.length := by
  intro ks
  induction ks with
  | nil => intro j; rfl
  | cons kd r ih => intro j; simp [am_fl, ih]
theorem am_fl_get {base : Nat} {m : am_Mem} {a : Nat} : ∀ (ks : List Nat) (j i kd : Nat), ks[i]? = some kd → (am_fl base m a ks j)[i]? = some (am_fv base m a kd (j + i)) := by
  intro ks
  induction ks with
  | nil => intro j i kd h; simp at h
  | cons k0 r ih =>
    intro j i kd h
    cases i with
    | zero =>
      simp at h
      subst h
      rfl
    | succ i =>
      have h2 := ih (j + 1) i kd (by simpa using h)
      rw [show j + (i + 1) = j + 1 + i by omega, ← h2]
      rfl
theorem am_fl_set {base : Nat} {m m' : am_Mem} {a : Nat} {v : Value} : ∀ (ks : List Nat) (j i kd : Nat), ks[i]? = some kd → (∀ kd' j', j' ≠ j + i → am_fv base m' a kd' j' = am_fv base m a kd' j') → am_fv base m' a kd (j + i) = v → am_fl base m' a ks j = (am_fl base m a ks j).set i v := by
  intro ks
  induction ks with
  | nil => intro j i kd h; simp at h
  | cons k0 r ih =>
    intro j i kd h ho hv
    cases i with
    | zero =>
      simp at h
      subst h
      have ht : ∀ (r : List Nat) (j1 : Nat), j < j1 → am_fl base m' a r j1 = am_fl base m a r j1 := by
        intro r
        induction r with
        | nil => intro j1 _; rfl
        | cons k1 r ih2 =>
          intro j1 hj
          simp only [am_fl]
          rw [ho k1 j1 (by omega), ih2 (j1 + 1) (by omega)]
      simp only [am_fl, List.set_cons_zero]
      rw [ht r (j + 1) (by omega)]
      rw [show am_fv base m' a k0 j = v from hv]
    | succ i =>
      simp only [am_fl, List.set_cons_succ]
      rw [ho k0 j (by omega), ih (j + 1) i kd (by simpa using h) (fun kd' j' hj => ho kd' j' (by omega)) (by rw [show j + 1 + i = j + (i + 1) by omega]; exact hv)]
theorem am_ws_upd {base : Nat} {cy : Nat → ClassId} {m m' : am_Mem} {i : Nat} {E : va_E} (h1 : am_n m' = am_n m) (h2 : ∀ c, c ≠ i + 1 → am_cell base cy m' c = am_cell base cy m c) (h3 : am_cell base cy m' (i + 1) = E) : (am_ws base cy m).set i (base + i, E) = am_ws base cy m' := by
  apply List.ext_getElem?
  intro j
  by_cases hj : j < am_n m
  · rw [am_ws_get (m := m') (by rw [h1]; exact hj)]
    by_cases hi : i = j
    · subst hi
      rw [List.getElem?_set_self (by rw [am_ws_len]; exact hj), h3]
    · rw [List.getElem?_set_ne hi, am_ws_get hj, h2 _ (by omega)]
  · have e1 : ((am_ws base cy m).set i (base + i, E))[j]? = none := by
      rw [List.getElem?_eq_none_iff, List.length_set, am_ws_len]; omega
    have e2 : (am_ws base cy m')[j]? = none := by
      rw [List.getElem?_eq_none_iff, am_ws_len, h1]; omega
    rw [e1, e2]
theorem am_ws_new {base : Nat} {cy : Nat → ClassId} {m m' : am_Mem} {E : va_E} (h1 : am_n m' = am_n m + 1) (h2 : ∀ c, c ≤ am_n m → am_cell base cy m' c = am_cell base cy m c) (h3 : am_cell base cy m' (am_n m + 1) = E) : am_ws base cy m ++ [(base + am_n m, E)] = am_ws base cy m' := by
  apply List.ext_getElem?
  intro j
  by_cases hj : j < am_n m
  · rw [am_ws_get (m := m') (by omega), List.getElem?_append_left (by rw [am_ws_len]; exact hj), am_ws_get hj, h2 _ (by omega)]
  · by_cases hj2 : j = am_n m
    · subst hj2
      rw [am_ws_get (m := m') (by omega), List.getElem?_append_right (by rw [am_ws_len]; exact Nat.le_refl _), am_ws_len, Nat.sub_self, h3]
      rfl
    · have e1 : (am_ws base cy m ++ [(base + am_n m, E)])[j]? = none := by
        rw [List.getElem?_eq_none_iff, List.length_append, am_ws_len]; simp; omega
      have e2 : (am_ws base cy m')[j]? = none := by
        rw [List.getElem?_eq_none_iff, am_ws_len]; omega
      rw [e1, e2]
/-- the heap's size out of the frame's own count -/
theorem am_fix {p : Program} {l : Launch} {e : Env} {R : Room} {s : State} {mid : MethodId} {args : Array Value} {below : List Frame} {meth : Method} {c : Code} {H : Heap} {locs : List Loc} {cells slots : Nat} {Q : State → Prop} {g : JFrame} {base : Nat} {D : va_G} {cy : Nat → ClassId} {m : am_Mem}
    (hP : va_P D am_cl (am_ws base cy m) H) (hS : va_S (fun q => base ≤ q) s.heap H locs) (hb : base ≤ s.heap.size) (hex : s.heap.size + cells = base + am_n m)
    (h : H.size = base + am_n m → W p l e R s mid args below meth c H locs cells slots Q g) : W p l e R s mid args below meth c H locs cells slots Q g := by
  intro T hT X
  refine h ?_ T hT X
  have h1 := X.heapSize
  rw [hT] at h1
  have h2 : base + am_n m ≤ H.size := by
    cases hn : am_n m with
    | zero =>
      have := hS.1
      omega
    | succ n =>
      have h3 := (hP n _ (am_ws_get (by omega))).lt
      have h4 : base + n < H.size := h3
      omega
  omega
/-! the classes -/
def am_r (ci : Nat) : vw_C := am_cl.getD ci ("", am_TE, 0)
def am_ty (ci : Nat) : Nat → FieldType := match ci with
  | 0 => tyX0
  | 1 => tyX1
  | 2 => tyX2
  | 3 => tyX3
  | 4 => tyX4
  | 5 => tyX5
  | 6 => tyX6
  | _ => tyX7
def am_kt (kd : Nat) (t : FieldType) : Bool := match kd, t with
  | 0, .int => true
  | 0, .boolean => true
  | 1, .long => true
  | 2, .object _ => true
  | 2, .array _ => true
  | _, _ => false
def am_CP (ci : Nat) : Prop := am_cl[ci]? = some (am_r ci) ∧ (am_r ci).2.2 = (am_fk ci).length ∧ (∀ w ∈ u_ws (am_r ci).1 (am_r ci).2.1 (am_r ci).2.2, w ∈ lw_tbl) ∧ (∀ w ∈ u_ws (am_r ci).1 (am_r ci).2.1 (am_r ci).2.2, goodWord w = true) ∧
  (∀ k, k < (am_r ci).2.2 → parseFieldDescriptor ((am_r ci).2.1 k).2.2.1 = some (am_ty ci k)) ∧ (∀ a, a < (am_r ci).2.2 → ∀ b, b < (am_r ci).2.2 → a ≠ b → ((am_r ci).2.1 a).2.1 ≠ ((am_r ci).2.1 b).2.1) ∧
  (∀ j, j < (am_fk ci).length → am_kt ((am_fk ci).getD j 3) (am_ty ci j) = true)
theorem am_cp0 : am_CP 0 := ⟨rfl, rfl, by decide +kernel, by decide +kernel, tyX0_ok, nmX0, by decide +kernel⟩
theorem am_cp1 : am_CP 1 := ⟨rfl, rfl, by decide +kernel, by decide +kernel, tyX1_ok, nmX1, by decide +kernel⟩
theorem am_cp2 : am_CP 2 := ⟨rfl, rfl, by decide +kernel, by decide +kernel, tyX2_ok, nmX2, by decide +kernel⟩
theorem am_cp3 : am_CP 3 := ⟨rfl, rfl, by decide +kernel, by decide +kernel, tyX3_ok, nmX3, by decide +kernel⟩
theorem am_cp4 : am_CP 4 := ⟨rfl, rfl, by decide +kernel, by decide +kernel, tyX4_ok, nmX4, by decide +kernel⟩
theorem am_cp5 : am_CP 5 := ⟨rfl, rfl, by decide +kernel, by decide +kernel, tyX5_ok, nmX5, by decide +kernel⟩
theorem am_cp6 : am_CP 6 := ⟨rfl, rfl, by decide +kernel, by decide +kernel, tyX6_ok, nmX6, by decide +kernel⟩
theorem am_cp7 : am_CP 7 := ⟨rfl, rfl, by decide +kernel, by decide +kernel, tyX7_ok, nmX7, by decide +kernel⟩
theorem am_cp {ci : Nat} (h : ci < 8) : am_CP ci := by
  match ci, h with
  | 0, _ => exact am_cp0
  | 1, _ => exact am_cp1
  | 2, _ => exact am_cp2
  | 3, _ => exact am_cp3
  | 4, _ => exact am_cp4
  | 5, _ => exact am_cp5
  | 6, _ => exact am_cp6
  | 7, _ => exact am_cp7
end
section
/-! rules of memory -/
def am_fld (k idx ci j kd : Nat) : Prop := ci < 8 ∧ (am_fk ci)[j]? = some kd ∧ Cond.fieldLink (am_y k).cls idx ((am_r ci).2.1 j).1 ((am_r ci).2.1 j).2.1 ((am_r ci).2.1 j).2.2.1 ∈ lw_tbl
def am_av (m : am_Mem) (a kd j : Nat) : Value := match kd with
  | 0 => .int (am_I m a j)
  | 1 => .long (am_J m a j)
  | _ => .ref (am_R m a j)
theorem am_av_sh (base b : Nat) (m : am_Mem) (a kd j : Nat) : am_sh base b (am_av m a kd j) = am_fv base m a kd j := by
  match kd with
  | 0 => rfl
  | 1 => rfl
  | _ + 2 => rfl
theorem am_cell_o {base : Nat} {cy : Nat → ClassId} {m : am_Mem} {a ci : Nat} (h : am_K m a = ci) (hc : ci < 11) : am_cell base cy m a = .inr (ci, am_fl base m a (am_fk ci) 0) := by
  unfold am_cell
  rw [h, if_pos hc]
theorem am_cell_a {base : Nat} {cy : Nat → ClassId} {m : am_Mem} {a ci : Nat} (h : am_K m a = ci) (hc : 11 ≤ ci) : am_cell base cy m a = .inl (cy ci, am_L m a, am_ac base m a) := by
  unfold am_cell
  rw [h, if_neg (by omega)]
theorem am_getf {sc : Nat × (Nat → Int32)} {k pc q : Nat} {ls st : List Value} {m : am_Mem} {Q : am_Out → am_Mem → Prop} {a idx ci j kd : Nat} (hd : am_at k pc (.getfield idx) 3 q) (hf : am_fld k idx ci j kd) (hk : am_K m a = ci) (h : am_W sc k q ls (am_av m a kd j :: st) m Q) : am_W sc k pc ls (.ref a :: st) m Q := by
  obtain ⟨hd, rfl⟩ := hd
  obtain ⟨hci, hkd, hw⟩ := hf
  intro p l e base b D cy R s mid args below meth c H locs cells slots la C hla
  obtain ⟨hP, -, hO⟩ := C.2.2.2.2.2.2.1
  obtain ⟨i, rfl, hi⟩ := am_K_ix hO hk (by omega)
  have cp := am_cp hci
  have hj : j < (am_r ci).2.2 := by rw [cp.2.1]; exact (List.getElem?_eq_some_iff.mp hkd).1
  have he : (am_ws base cy m)[i]? = some (base + i, .inr (ci, am_fl base m (i + 1) (am_fk ci) 0)) := by rw [am_ws_get hi, am_cell_o hk (by omega)]
  have hv := am_fl_get (base := base) (m := m) (a := i + 1) (am_fk ci) 0 j kd hkd
  rw [Nat.zero_add, ← am_av_sh base b] at hv
  exact va_get (rest := st.map (am_sh base b)) (Ts := u_ws (am_r ci).1 (am_r ci).2.1 (am_r ci).2.2) C.1 (am_C.b C) (fun w hw => am_C.w C (cp.2.2.1 w hw) (cp.2.2.2.1 w hw)) (fun w h => h) (am_C.own C) C.2.2.1.2.2.2.2.1 hP i he cp.1 j hj (am_C.w C hw rfl) (fun x h => h) hv hd
    (h p l e base b D cy R s mid args below meth c H locs cells slots la C hla)
/-- a store: the memory of the same cells, H1 holds it -/
theorem am_ctx_put {sc : Nat × (Nat → Int32)} {k : Nat} {m m' : am_Mem} {p : Program} {l : Launch} {base b : Nat} {D : va_G} {cy : Nat → ClassId} {R : Room} {s : State} {mid : MethodId} {meth : Method} {c : Code} {H H1 : Heap} {locs locs1 : List Loc} {cells slots : Nat}
    (C : am_Ctx sc k m p l base b D cy R s mid meth c H locs cells slots) (hP : va_P D am_cl (am_ws base cy m') H1) (hS : va_S (fun q => base ≤ q) s.heap H1 locs1) (hz : H1.size = base + am_n m') (h1 : m'.1 = m.1) (h2 : ∀ a, am_K m' a = am_K m a) :
    am_Ctx sc k m' p l base b D cy R s mid meth c H1 locs1 cells slots := by
  have hn : am_n m' = am_n m := congrArg Prod.fst h1
  have hu : am_u m' = am_u m := congrArg Prod.snd h1
  refine ⟨C.1, C.2.1, C.2.2.1, C.2.2.2.1, C.2.2.2.2.1, ?_, ⟨hP, hz, fun a ha => ?_⟩, hS, ?_⟩
  · have := C.2.2.2.2.2.1
    unfold am_Rm at this ⊢
    rw [hn, hu]
    exact this
  · rw [hn] at ha
    rw [h2]
    exact C.2.2.2.2.2.2.1.2.2 a ha
  · rw [hn]
    exact C.2.2.2.2.2.2.2.2
/-- may this method write that field: it isn't final, or this is the class's own constructor -/
def am_pf (k ci j : Nat) : Bool := !((am_r ci).2.1 j).2.2.2 || (decide ((am_y k).name = "<init>") && decide (((am_r ci).2.1 j).1 = (am_y k).cls))
theorem am_putf {sc : Nat × (Nat → Int32)} {k pc q : Nat} {ls st : List Value} {m m' : am_Mem} {Q : am_Out → am_Mem → Prop} {a idx ci j kd : Nat} {v : Value} (hd : am_at k pc (.putfield idx) 3 q) (hf : am_fld k idx ci j kd) (hpf : am_pf k ci j = true) (hk : am_K m a = ci)
    (hty : ∀ base b, narrow (am_ty ci j) (am_sh base b v) = am_sh base b v ∧ fits (am_ty ci j) (am_sh base b v) = true)
    (h1 : m'.1 = m.1) (h2 : ∀ c, am_K m' c = am_K m c) (h3 : ∀ base cy c, c ≠ a → am_cell base cy m' c = am_cell base cy m c) (h4 : ∀ base b, am_fl base m' a (am_fk ci) 0 = (am_fl base m a (am_fk ci) 0).set j (am_sh base b v))
    (h : am_W sc k q ls st m' Q) : am_W sc k pc ls (v :: .ref a :: st) m Q := by
  obtain ⟨hd, rfl⟩ := hd
  obtain ⟨hci, hkd, hw⟩ := hf
  intro p l e base b D cy R s mid args below meth c H locs cells slots la C hla
  obtain ⟨hP, hz0, hO⟩ := C.2.2.2.2.2.2.1
  obtain ⟨i, rfl, hi⟩ := am_K_ix hO hk (by omega)
  have cp := am_cp hci
  have hjl := (List.getElem?_eq_some_iff.mp hkd).1
  have hj : j < (am_r ci).2.2 := by rw [cp.2.1]; exact hjl
  have he : (am_ws base cy m)[i]? = some (base + i, .inr (ci, am_fl base m (i + 1) (am_fk ci) 0)) := by rw [am_ws_get hi, am_cell_o hk (by omega)]
  have hws : (am_ws base cy m).set i (base + i, .inr (ci, (am_fl base m (i + 1) (am_fk ci) 0).set j (am_sh base b v))) = am_ws base cy m' :=
    am_ws_upd (congrArg Prod.fst h1) (fun c hc => h3 base cy c hc) (by rw [am_cell_o ((h2 (i + 1)).trans hk) (by omega), h4 base b])
  have kk : ∀ (H1 : Heap) (locs1 : List Loc), va_P D am_cl ((am_ws base cy m).set i (base + i, .inr (ci, (am_fl base m (i + 1) (am_fk ci) 0).set j (am_sh base b v)))) H1 → va_D (fun q => base ≤ q) ((am_ws base cy m).set i (base + i, .inr (ci, (am_fl base m (i + 1) (am_fk ci) 0).set j (am_sh base b v)))) → va_S (fun q => base ≤ q) s.heap H1 locs1 →
      W p l e R s mid args below meth c H1 locs1 cells slots (am_End base b D cy R s below Q) (F0 mid (pc + 3) la (st.map (am_sh base b))) := by
    intro H1 locs1 hP1 _ hS1
    rw [hws] at hP1
    refine am_fix hP1 hS1 C.2.2.1.2.2.2.2.2.2.2.1 (by rw [show am_n m' = am_n m from congrArg Prod.fst h1]; exact C.2.2.2.2.2.2.2.2) (fun hz => ?_)
    exact h p l e base b D cy R s mid args below meth c H1 locs1 cells slots la (am_ctx_put C hP1 hS1 hz h1 h2) hla
  have hl : j < (am_fl base m (i + 1) (am_fk ci) 0).length := by rw [am_fl_len]; exact hjl
  by_cases hfin : ((am_r ci).2.1 j).2.2.2 = true
  · simp only [am_pf, hfin, Bool.not_true, Bool.false_or, Bool.and_eq_true, decide_eq_true_eq] at hpf
    exact va_putF (rest := st.map (am_sh base b)) (Ts := u_ws (am_r ci).1 (am_r ci).2.1 (am_r ci).2.2) C.1 (am_C.b C) (fun w hw => am_C.w C (cp.2.2.1 w hw) (cp.2.2.2.1 w hw)) (fun w h => h) (am_ty ci) cp.2.2.2.2.1 cp.2.2.2.2.2.1 (am_C.own C) C.2.2.1.2.2.2.2.1 hP am_ws_D C.2.2.2.2.2.2.2.1 i he cp.1 j hj (am_C.w C hw rfl) (fun x h => h) hfin
      (by rw [C.2.2.2.1.2.2.2.2.2.1]; exact hpf.1) hpf.2 (cp.2.2.2.2.1 j hj) (hty base b).1 (hty base b).2 hl hd kk
  · exact va_put (rest := st.map (am_sh base b)) (Ts := u_ws (am_r ci).1 (am_r ci).2.1 (am_r ci).2.2) C.1 (am_C.b C) (fun w hw => am_C.w C (cp.2.2.1 w hw) (cp.2.2.2.1 w hw)) (fun w h => h) (am_ty ci) cp.2.2.2.2.1 cp.2.2.2.2.2.1 (am_C.own C) C.2.2.1.2.2.2.2.1 hP am_ws_D C.2.2.2.2.2.2.2.1 i he cp.1 j hj (am_C.w C hw rfl) (fun x h => h) (by simpa using hfin)
      (cp.2.2.2.2.1 j hj) (hty base b).1 (hty base b).2 hl hd kk
theorem am_putI {sc : Nat × (Nat → Int32)} {k pc q : Nat} {ls st : List Value} {m : am_Mem} {Q : am_Out → am_Mem → Prop} {a idx ci j : Nat} {x : Int32} (hd : am_at k pc (.putfield idx) 3 q) (hf : am_fld k idx ci j 0) (hpf : am_pf k ci j = true) (hk : am_K m a = ci) (hty : am_ty ci j = .int)
    (h : am_W sc k q ls st (am_setI m a j x) Q) : am_W sc k pc ls (.int x :: .ref a :: st) m Q := by
  refine am_putf (m' := am_setI m a j x) hd hf hpf hk (fun base b => by rw [hty]; exact ⟨rfl, rfl⟩) rfl (fun _ => rfl) (fun base cy c hc => am_cell_congr rfl rfl (fun i => ?_) (fun _ => rfl) (fun _ => rfl)) (fun base b => ?_) h
  · show (if c = a ∧ i = j then x else am_I m c i) = am_I m c i
    rw [if_neg (fun q => hc q.1)]
  · refine am_fl_set (am_fk ci) 0 j 0 hf.2.1 (fun kd' j' hj => ?_) ?_
    · unfold am_fv
      split
      · show Value.int (if a = a ∧ j' = j then x else am_I m a j') = .int (am_I m a j')
        rw [if_neg (fun q => hj (by omega))]
      · rfl
      · rfl
    · show Value.int (if a = a ∧ 0 + j = j then x else am_I m a (0 + j)) = .int x
      rw [if_pos ⟨rfl, by omega⟩]
theorem am_putZ {sc : Nat × (Nat → Int32)} {k pc q : Nat} {ls st : List Value} {m : am_Mem} {Q : am_Out → am_Mem → Prop} {a idx ci j : Nat} {x : Int32} (hd : am_at k pc (.putfield idx) 3 q) (hf : am_fld k idx ci j 0) (hpf : am_pf k ci j = true) (hk : am_K m a = ci) (hty : am_ty ci j = .boolean) (hx : x = 0 ∨ x = 1)
    (h : am_W sc k q ls st (am_setI m a j x) Q) : am_W sc k pc ls (.int x :: .ref a :: st) m Q := by
  refine am_putf (m' := am_setI m a j x) hd hf hpf hk (fun base b => by rw [hty]; rcases hx with rfl | rfl <;> exact ⟨rfl, rfl⟩) rfl (fun _ => rfl) (fun base cy c hc => am_cell_congr rfl rfl (fun i => ?_) (fun _ => rfl) (fun _ => rfl)) (fun base b => ?_) h
  · show (if c = a ∧ i = j then x else am_I m c i) = am_I m c i
    rw [if_neg (fun q => hc q.1)]
  · refine am_fl_set (am_fk ci) 0 j 0 hf.2.1 (fun kd' j' hj => ?_) ?_
    · unfold am_fv
      split
      · show Value.int (if a = a ∧ j' = j then x else am_I m a j') = .int (am_I m a j')
        rw [if_neg (fun q => hj (by omega))]
      · rfl
      · rfl
    · show Value.int (if a = a ∧ 0 + j = j then x else am_I m a (0 + j)) = .int x
      rw [if_pos ⟨rfl, by omega⟩]
theorem am_putJ {sc : Nat × (Nat → Int32)} {k pc q : Nat} {ls st : List Value} {m : am_Mem} {Q : am_Out → am_Mem → Prop} {a idx ci j : Nat} {x : Int64} (hd : am_at k pc (.putfield idx) 3 q) (hf : am_fld k idx ci j 1) (hpf : am_pf k ci j = true) (hk : am_K m a = ci) (hty : am_ty ci j = .long)
    (h : am_W sc k q ls st (am_setJ m a j x) Q) : am_W sc k pc ls (.long x :: .ref a :: st) m Q := by
  refine am_putf (m' := am_setJ m a j x) hd hf hpf hk (fun base b => by rw [hty]; exact ⟨rfl, rfl⟩) rfl (fun _ => rfl) (fun base cy c hc => am_cell_congr rfl rfl (fun _ => rfl) (fun i => ?_) (fun _ => rfl)) (fun base b => ?_) h
  · show (if c = a ∧ i = j then x else am_J m c i) = am_J m c i
    rw [if_neg (fun q => hc q.1)]
  · refine am_fl_set (am_fk ci) 0 j 1 hf.2.1 (fun kd' j' hj => ?_) ?_
    · unfold am_fv
      split
      · rfl
      · show Value.long (if a = a ∧ j' = j then x else am_J m a j') = .long (am_J m a j')
        rw [if_neg (fun q => hj (by omega))]
      · rfl
    · show Value.long (if a = a ∧ 0 + j = j then x else am_J m a (0 + j)) = .long x
      rw [if_pos ⟨rfl, by omega⟩]
theorem am_putR {sc : Nat × (Nat → Int32)} {k pc q : Nat} {ls st : List Value} {m : am_Mem} {Q : am_Out → am_Mem → Prop} {a idx ci j : Nat} {x : Nat} (hd : am_at k pc (.putfield idx) 3 q) (hf : am_fld k idx ci j 2) (hpf : am_pf k ci j = true) (hk : am_K m a = ci)
    (h : am_W sc k q ls st (am_setR m a j x) Q) : am_W sc k pc ls (.ref x :: .ref a :: st) m Q := by
  have hci := hf.1
  have hjl := (List.getElem?_eq_some_iff.mp hf.2.1).1
  have h9 := (am_cp hci).2.2.2.2.2.2 j hjl
  rw [List.getD_eq_getElem?_getD, hf.2.1] at h9
  refine am_putf (m' := am_setR m a j x) hd hf hpf hk (fun base b => ?_) rfl (fun _ => rfl) (fun base cy c hc => am_cell_congr rfl rfl (fun _ => rfl) (fun _ => rfl) (fun i => ?_)) (fun base b => ?_) h
  · cases ht : am_ty ci j <;> rw [ht] at h9 <;> first | (cases h9; done) | (cases x <;> exact ⟨rfl, rfl⟩)
  · show (if c = a ∧ i = j then x else am_R m c i) = am_R m c i
    rw [if_neg (fun q => hc q.1)]
  · refine am_fl_set (am_fk ci) 0 j 2 hf.2.1 (fun kd' j' hj => ?_) ?_
    · unfold am_fv
      split
      · rfl
      · rfl
      · show am_rv base (if a = a ∧ j' = j then x else am_R m a j') = am_rv base (am_R m a j')
        rw [if_neg (fun q => hj (by omega))]
    · show am_rv base (if a = a ∧ 0 + j = j then x else am_R m a (0 + j)) = am_rv base x
      rw [if_pos ⟨rfl, by omega⟩]
end
section
/-! arrays, new cells -/
theorem am_tys_at (cy : Nat → ClassId) {j : Nat} (h : j < 8) : (am_tys cy)[j]? = some (cy (11 + j), am_an j) := by
  simp [am_tys, h]
def am_cs (st : List Value) : Nat := (st.map (fun v => v.category)).sum
theorem am_cs_sh (base b : Nat) (st : List Value) : ((st.map (am_sh base b)).map (fun v => v.category)).sum = am_cs st := by
  unfold am_cs
  rw [List.map_map]
  congr 1
  apply List.map_congr_left
  intro v _
  exact am_sh_cat base b v
theorem am_ac_i {base : Nat} {m : am_Mem} {a kd : Nat} (h : am_K m a = kd) (h1 : kd ≠ 12) (h2 : kd < 14) : am_ac base m a = .inl (am_I m a) := by
  unfold am_ac
  rw [h, if_neg h1, if_pos h2]
theorem am_ac_j {base : Nat} {m : am_Mem} {a : Nat} (h : am_K m a = 12) : am_ac base m a = .inr (.inl (am_J m a)) := by
  unfold am_ac
  rw [h, if_pos rfl]
theorem am_ac_r {base : Nat} {m : am_Mem} {a kd : Nat} (h : am_K m a = kd) (h2 : 14 ≤ kd) : am_ac base m a = .inr (.inr (.inr (.inr (fun j => am_ro base (am_R m a j))))) := by
  unfold am_ac
  rw [h, if_neg (by omega), if_neg (by omega)]
theorem am_iald {sc : Nat × (Nat → Int32)} {k pc q : Nat} {ls st : List Value} {m : am_Mem} {Q : am_Out → am_Mem → Prop} {a : Nat} {x : Int32} (hd : am_at k pc .iaload 1 q) (hk : am_K m a = 11) (hx : vp_in x (am_L m a)) (h : am_W sc k q ls (.int (am_I m a x.toNatClampNeg) :: st) m Q) : am_W sc k pc ls (.int x :: .ref a :: st) m Q := by
  obtain ⟨hd, rfl⟩ := hd
  intro p l e base b D cy R s mid args below meth c H locs cells slots la C hla
  obtain ⟨hP, -, hO⟩ := C.2.2.2.2.2.2.1
  obtain ⟨i, rfl, hi⟩ := am_K_ix hO hk (by decide)
  have he := am_ws_get (base := base) (cy := cy) hi
  rw [am_cell_a hk (by decide), am_ac_i hk (by decide) (by decide)] at he
  exact va_iald (rest := st.map (am_sh base b)) C.1 (am_C.b C) C.2.2.1.2.2.2.2.1 hP i 0 he (am_tys_at cy (by decide)) hx hd (h p l e base b D cy R s mid args below meth c H locs cells slots la C hla)
theorem am_zald {sc : Nat × (Nat → Int32)} {k pc q : Nat} {ls st : List Value} {m : am_Mem} {Q : am_Out → am_Mem → Prop} {a : Nat} {x : Int32} (hd : am_at k pc .baload 1 q) (hk : am_K m a = 13) (hx : vp_in x (am_L m a)) (h : am_W sc k q ls (.int (am_I m a x.toNatClampNeg) :: st) m Q) : am_W sc k pc ls (.int x :: .ref a :: st) m Q := by
  obtain ⟨hd, rfl⟩ := hd
  intro p l e base b D cy R s mid args below meth c H locs cells slots la C hla
  obtain ⟨hP, -, hO⟩ := C.2.2.2.2.2.2.1
  obtain ⟨i, rfl, hi⟩ := am_K_ix hO hk (by decide)
  have he := am_ws_get (base := base) (cy := cy) hi
  rw [am_cell_a hk (by decide), am_ac_i hk (by decide) (by decide)] at he
  exact va_zald (rest := st.map (am_sh base b)) C.1 (am_C.b C) C.2.2.1.2.2.2.2.1 hP i 2 he (am_tys_at cy (by decide)) hx hd (h p l e base b D cy R s mid args below meth c H locs cells slots la C hla)
theorem am_lald {sc : Nat × (Nat → Int32)} {k pc q : Nat} {ls st : List Value} {m : am_Mem} {Q : am_Out → am_Mem → Prop} {a : Nat} {x : Int32} (hd : am_at k pc .laload 1 q) (hk : am_K m a = 12) (hx : vp_in x (am_L m a)) (h : am_W sc k q ls (.long (am_J m a x.toNatClampNeg) :: st) m Q) : am_W sc k pc ls (.int x :: .ref a :: st) m Q := by
  obtain ⟨hd, rfl⟩ := hd
  intro p l e base b D cy R s mid args below meth c H locs cells slots la C hla
  obtain ⟨hP, -, hO⟩ := C.2.2.2.2.2.2.1
  obtain ⟨i, rfl, hi⟩ := am_K_ix hO hk (by decide)
  have he := am_ws_get (base := base) (cy := cy) hi
  rw [am_cell_a hk (by decide), am_ac_j hk] at he
  exact va_lald (rest := st.map (am_sh base b)) C.1 (am_C.b C) C.2.2.1.2.2.2.2.1 hP i 1 he (am_tys_at cy (by decide)) hx hd (h p l e base b D cy R s mid args below meth c H locs cells slots la C hla)
theorem am_aald {sc : Nat × (Nat → Int32)} {k pc q : Nat} {ls st : List Value} {m : am_Mem} {Q : am_Out → am_Mem → Prop} {a ci : Nat} {x : Int32} (hd : am_at k pc .aaload 1 q) (hk : am_K m a = 14 + ci) (hci : ci < 5) (hx : vp_in x (am_L m a)) (h : am_W sc k q ls (.ref (am_R m a x.toNatClampNeg) :: st) m Q) : am_W sc k pc ls (.int x :: .ref a :: st) m Q := by
  obtain ⟨hd, rfl⟩ := hd
  intro p l e base b D cy R s mid args below meth c H locs cells slots la C hla
  obtain ⟨hP, -, hO⟩ := C.2.2.2.2.2.2.1
  obtain ⟨i, rfl, hi⟩ := am_K_ix hO hk (by omega)
  have he := am_ws_get (base := base) (cy := cy) hi
  rw [am_cell_a hk (by omega), am_ac_r hk (by omega)] at he
  obtain ⟨Cn, hCn⟩ : ∃ Cn, am_an (3 + ci) = .object Cn := by
    match ci, hci with
    | 0, _ => exact ⟨_, rfl⟩
    | 1, _ => exact ⟨_, rfl⟩
    | 2, _ => exact ⟨_, rfl⟩
    | 3, _ => exact ⟨_, rfl⟩
    | 4, _ => exact ⟨_, rfl⟩
  have ht := am_tys_at cy (j := 3 + ci) (by omega)
  rw [hCn, show 11 + (3 + ci) = 14 + ci by omega] at ht
  refine va_aldq (rest := st.map (am_sh base b)) C.1 (am_C.b C) C.2.2.1.2.2.2.2.1 hP i (3 + ci) he ht hx hd ?_
  rw [am_ro_rv]
  exact h p l e base b D cy R s mid args below meth c H locs cells slots la C hla
theorem am_alen {sc : Nat × (Nat → Int32)} {k pc q : Nat} {ls st : List Value} {m : am_Mem} {Q : am_Out → am_Mem → Prop} {a kd : Nat} (hd : am_at k pc .arraylength 1 q) (hk : am_K m a = kd) (h11 : 11 ≤ kd) (h18 : kd < 19) (h : am_W sc k q ls (.int (nI (am_L m a)) :: st) m Q) : am_W sc k pc ls (.ref a :: st) m Q := by
  obtain ⟨hd, rfl⟩ := hd
  intro p l e base b D cy R s mid args below meth c H locs cells slots la C hla
  obtain ⟨hP, -, hO⟩ := C.2.2.2.2.2.2.1
  obtain ⟨i, rfl, hi⟩ := am_K_ix hO hk (by omega)
  have he := am_ws_get (base := base) (cy := cy) hi
  rw [am_cell_a hk h11] at he
  have ht := am_tys_at cy (j := kd - 11) (by omega)
  rw [show 11 + (kd - 11) = kd by omega] at ht
  exact va_alen (rest := st.map (am_sh base b)) C.1 (am_C.b C) C.2.2.1.2.2.2.2.1 hP i (kd - 11) he ht rfl hd (h p l e base b D cy R s mid args below meth c H locs cells slots la C hla)
/-- the law's own script -/
theorem am_sld {sc : Nat × (Nat → Int32)} {k pc q : Nat} {ls st : List Value} {m : am_Mem} {Q : am_Out → am_Mem → Prop} {x : Int32} (hd : am_at k pc .iaload 1 q) (hx : vp_in x sc.1) (h : am_W sc k q ls (.int (sc.2 x.toNatClampNeg) :: st) m Q) : am_W sc k pc ls (.int x :: .retAddr 0 :: st) m Q := by
  obtain ⟨hd, rfl⟩ := hd
  intro p l e base b D cy R s mid args below meth c H locs cells slots la C hla
  obtain ⟨-, -, -, -, -, hX, hbb, hbs, -⟩ := C.2.2.1
  exact va_sld (rest := st.map (am_sh base b)) C.1 (am_C.b C) hX (Nat.lt_of_lt_of_le hbb hbs) (show ¬ base ≤ b from Nat.not_le.mpr hbb) C.2.2.2.2.2.2.2.1 hx hd (h p l e base b D cy R s mid args below meth c H locs cells slots la C hla)
theorem am_slen {sc : Nat × (Nat → Int32)} {k pc q : Nat} {ls st : List Value} {m : am_Mem} {Q : am_Out → am_Mem → Prop} (hd : am_at k pc .arraylength 1 q) (h : am_W sc k q ls (.int (nI sc.1) :: st) m Q) : am_W sc k pc ls (.retAddr 0 :: st) m Q := by
  obtain ⟨hd, rfl⟩ := hd
  intro p l e base b D cy R s mid args below meth c H locs cells slots la C hla
  obtain ⟨-, -, -, -, -, hX, hbb, hbs, -⟩ := C.2.2.1
  exact va_slen (rest := st.map (am_sh base b)) C.1 (am_C.b C) hX (Nat.lt_of_lt_of_le hbb hbs) (show ¬ base ≤ b from Nat.not_le.mpr hbb) C.2.2.2.2.2.2.2.1 hd (h p l e base b D cy R s mid args below meth c H locs cells slots la C hla)
theorem am_iast {sc : Nat × (Nat → Int32)} {k pc q : Nat} {ls st : List Value} {m : am_Mem} {Q : am_Out → am_Mem → Prop} {a : Nat} {x : Int32} {y : Int32} (hd : am_at k pc .iastore 1 q) (hk : am_K m a = 11) (hx : vp_in x (am_L m a)) (h : am_W sc k q ls st (am_setI m a x.toNatClampNeg y) Q) : am_W sc k pc ls (.int y :: .int x :: .ref a :: st) m Q := by
  obtain ⟨hd, rfl⟩ := hd
  intro p l e base b D cy R s mid args below meth c H locs cells slots la C hla
  obtain ⟨hP, hz0, hO⟩ := C.2.2.2.2.2.2.1
  obtain ⟨i, rfl, hi⟩ := am_K_ix hO hk (by decide)
  have he := am_ws_get (base := base) (cy := cy) hi
  rw [am_cell_a hk (by decide), am_ac_i hk (by decide) (by decide)] at he
  have hws : (am_ws base cy m).set i (base + i, .inl (cy 11, am_L m (i + 1), .inl (upd (am_I m (i + 1)) x.toNatClampNeg y))) = am_ws base cy (am_setI m (i + 1) x.toNatClampNeg y) := by
    refine am_ws_upd rfl (fun c hc => am_cell_congr rfl rfl ?_ ?_ (fun _ => rfl)) ?_
    · first | exact fun _ => rfl | exact fun j => if_neg (fun q => hc q.1)
    · first | exact fun _ => rfl | exact fun j => if_neg (fun q => hc q.1)
    · rw [am_cell_a (m := am_setI m (i + 1) x.toNatClampNeg y) hk (by decide), am_ac_i (m := am_setI m (i + 1) x.toNatClampNeg y) hk (by decide) (by decide)]
      refine congrArg (fun f => (Sum.inl (cy 11, am_L m (i + 1), Sum.inl f) : va_E)) (funext fun j => ?_)
      show (if i + 1 = i + 1 ∧ j = x.toNatClampNeg then y else am_I m (i + 1) j) = (if j = x.toNatClampNeg then y else am_I m (i + 1) j)
      by_cases hj : j = x.toNatClampNeg
      · rw [if_pos hj, if_pos ⟨rfl, hj⟩]
      · rw [if_neg hj, if_neg (fun q => hj q.2)]
  refine va_iast (rest := st.map (am_sh base b)) C.1 (am_C.b C) C.2.2.1.2.2.2.2.1 hP am_ws_D C.2.2.2.2.2.2.2.1 i 0 he (am_tys_at cy (by decide)) hx hd (fun H1 locs1 hP1 _ hS1 => ?_)
  rw [hws] at hP1
  refine am_fix hP1 hS1 C.2.2.1.2.2.2.2.2.2.2.1 C.2.2.2.2.2.2.2.2 (fun hz => ?_)
  exact h p l e base b D cy R s mid args below meth c H1 locs1 cells slots la (am_ctx_put C hP1 hS1 hz rfl (fun _ => rfl)) hla
theorem am_zast {sc : Nat × (Nat → Int32)} {k pc q : Nat} {ls st : List Value} {m : am_Mem} {Q : am_Out → am_Mem → Prop} {a : Nat} {x : Int32} {y : Int32} (hd : am_at k pc .bastore 1 q) (hk : am_K m a = 13) (hx : vp_in x (am_L m a)) (h : am_W sc k q ls st (am_setI m a x.toNatClampNeg (vp_nar .boolean y)) Q) : am_W sc k pc ls (.int y :: .int x :: .ref a :: st) m Q := by
  obtain ⟨hd, rfl⟩ := hd
  intro p l e base b D cy R s mid args below meth c H locs cells slots la C hla
  obtain ⟨hP, hz0, hO⟩ := C.2.2.2.2.2.2.1
  obtain ⟨i, rfl, hi⟩ := am_K_ix hO hk (by decide)
  have he := am_ws_get (base := base) (cy := cy) hi
  rw [am_cell_a hk (by decide), am_ac_i hk (by decide) (by decide)] at he
  have hws : (am_ws base cy m).set i (base + i, .inl (cy 13, am_L m (i + 1), .inl (upd (am_I m (i + 1)) x.toNatClampNeg (vp_nar .boolean y)))) = am_ws base cy (am_setI m (i + 1) x.toNatClampNeg (vp_nar .boolean y)) := by
    refine am_ws_upd rfl (fun c hc => am_cell_congr rfl rfl ?_ ?_ (fun _ => rfl)) ?_
    · first | exact fun _ => rfl | exact fun j => if_neg (fun q => hc q.1)
    · first | exact fun _ => rfl | exact fun j => if_neg (fun q => hc q.1)
    · rw [am_cell_a (m := am_setI m (i + 1) x.toNatClampNeg (vp_nar .boolean y)) hk (by decide), am_ac_i (m := am_setI m (i + 1) x.toNatClampNeg (vp_nar .boolean y)) hk (by decide) (by decide)]
      refine congrArg (fun f => (Sum.inl (cy 13, am_L m (i + 1), Sum.inl f) : va_E)) (funext fun j => ?_)
      show (if i + 1 = i + 1 ∧ j = x.toNatClampNeg then (vp_nar .boolean y) else am_I m (i + 1) j) = (if j = x.toNatClampNeg then (vp_nar .boolean y) else am_I m (i + 1) j)
      by_cases hj : j = x.toNatClampNeg
      · rw [if_pos hj, if_pos ⟨rfl, hj⟩]
      · rw [if_neg hj, if_neg (fun q => hj q.2)]
  refine va_zast (rest := st.map (am_sh base b)) C.1 (am_C.b C) C.2.2.1.2.2.2.2.1 hP am_ws_D C.2.2.2.2.2.2.2.1 i 2 he (am_tys_at cy (by decide)) hx hd (fun H1 locs1 hP1 _ hS1 => ?_)
  rw [hws] at hP1
  refine am_fix hP1 hS1 C.2.2.1.2.2.2.2.2.2.2.1 C.2.2.2.2.2.2.2.2 (fun hz => ?_)
  exact h p l e base b D cy R s mid args below meth c H1 locs1 cells slots la (am_ctx_put C hP1 hS1 hz rfl (fun _ => rfl)) hla
theorem am_last {sc : Nat × (Nat → Int32)} {k pc q : Nat} {ls st : List Value} {m : am_Mem} {Q : am_Out → am_Mem → Prop} {a : Nat} {x : Int32} {y : Int64} (hd : am_at k pc .lastore 1 q) (hk : am_K m a = 12) (hx : vp_in x (am_L m a)) (h : am_W sc k q ls st (am_setJ m a x.toNatClampNeg y) Q) : am_W sc k pc ls (.long y :: .int x :: .ref a :: st) m Q := by
  obtain ⟨hd, rfl⟩ := hd
  intro p l e base b D cy R s mid args below meth c H locs cells slots la C hla
  obtain ⟨hP, hz0, hO⟩ := C.2.2.2.2.2.2.1
  obtain ⟨i, rfl, hi⟩ := am_K_ix hO hk (by decide)
  have he := am_ws_get (base := base) (cy := cy) hi
  rw [am_cell_a hk (by decide), am_ac_j hk] at he
  have hws : (am_ws base cy m).set i (base + i, .inl (cy 12, am_L m (i + 1), .inr (.inl (vp_updL (am_J m (i + 1)) x.toNatClampNeg y)))) = am_ws base cy (am_setJ m (i + 1) x.toNatClampNeg y) := by
    refine am_ws_upd rfl (fun c hc => am_cell_congr rfl rfl ?_ ?_ (fun _ => rfl)) ?_
    · first | exact fun _ => rfl | exact fun j => if_neg (fun q => hc q.1)
    · first | exact fun _ => rfl | exact fun j => if_neg (fun q => hc q.1)
    · rw [am_cell_a (m := am_setJ m (i + 1) x.toNatClampNeg y) hk (by decide), am_ac_j (m := am_setJ m (i + 1) x.toNatClampNeg y) hk]
      refine congrArg (fun f => (Sum.inl (cy 12, am_L m (i + 1), Sum.inr (Sum.inl f)) : va_E)) (funext fun j => ?_)
      show (if i + 1 = i + 1 ∧ j = x.toNatClampNeg then y else am_J m (i + 1) j) = (if j = x.toNatClampNeg then y else am_J m (i + 1) j)
      by_cases hj : j = x.toNatClampNeg
      · rw [if_pos hj, if_pos ⟨rfl, hj⟩]
      · rw [if_neg hj, if_neg (fun q => hj q.2)]
  refine va_last (rest := st.map (am_sh base b)) C.1 (am_C.b C) C.2.2.1.2.2.2.2.1 hP am_ws_D C.2.2.2.2.2.2.2.1 i 1 he (am_tys_at cy (by decide)) hx hd (fun H1 locs1 hP1 _ hS1 => ?_)
  rw [hws] at hP1
  refine am_fix hP1 hS1 C.2.2.1.2.2.2.2.2.2.2.1 C.2.2.2.2.2.2.2.2 (fun hz => ?_)
  exact h p l e base b D cy R s mid args below meth c H1 locs1 cells slots la (am_ctx_put C hP1 hS1 hz rfl (fun _ => rfl)) hla
theorem am_aast {sc : Nat × (Nat → Int32)} {k pc q : Nat} {ls st : List Value} {m : am_Mem} {Q : am_Out → am_Mem → Prop} {a ci v : Nat} {x : Int32} (hd : am_at k pc .aastore 1 q) (hk : am_K m a = 14 + ci) (hci : ci < 5) (hv : v = 0 ∨ am_K m v = ci) (hx : vp_in x (am_L m a)) (h : am_W sc k q ls st (am_setR m a x.toNatClampNeg v) Q) : am_W sc k pc ls (.ref v :: .int x :: .ref a :: st) m Q := by
  obtain ⟨hd, rfl⟩ := hd
  intro p l e base b D cy R s mid args below meth c H locs cells slots la C hla
  obtain ⟨hP, hz0, hO⟩ := C.2.2.2.2.2.2.1
  obtain ⟨i, rfl, hi⟩ := am_K_ix hO hk (by omega)
  have he := am_ws_get (base := base) (cy := cy) hi
  rw [am_cell_a hk (by omega), am_ac_r hk (by omega)] at he
  have hCn : am_an (3 + ci) = .object (am_r ci).1 ∧ am_cl[ci]? = some (am_r ci) := by
    match ci, hci with
    | 0, _ => exact ⟨rfl, rfl⟩
    | 1, _ => exact ⟨rfl, rfl⟩
    | 2, _ => exact ⟨rfl, rfl⟩
    | 3, _ => exact ⟨rfl, rfl⟩
    | 4, _ => exact ⟨rfl, rfl⟩
  have ht := am_tys_at cy (j := 3 + ci) (by omega)
  rw [hCn.1, show 11 + (3 + ci) = 14 + ci by omega] at ht
  have hws : (am_ws base cy m).set i (base + i, .inl (cy (14 + ci), am_L m (i + 1), .inr (.inr (.inr (.inr (va_up (fun j => am_ro base (am_R m (i + 1) j)) x.toNatClampNeg (am_ro base v))))))) = am_ws base cy (am_setR m (i + 1) x.toNatClampNeg v) := by
    refine am_ws_upd rfl (fun c hc => am_cell_congr rfl rfl (fun _ => rfl) (fun _ => rfl) (fun j => if_neg (fun q => hc q.1))) ?_
    rw [am_cell_a (m := am_setR m (i + 1) x.toNatClampNeg v) hk (by omega), am_ac_r (m := am_setR m (i + 1) x.toNatClampNeg v) hk (by omega)]
    refine congrArg (fun f => (Sum.inl (cy (14 + ci), am_L m (i + 1), Sum.inr (Sum.inr (Sum.inr (Sum.inr f)))) : va_E)) (funext fun j => ?_)
    show am_ro base (if i + 1 = i + 1 ∧ j = x.toNatClampNeg then v else am_R m (i + 1) j) = (if j = x.toNatClampNeg then am_ro base v else am_ro base (am_R m (i + 1) j))
    by_cases hj : j = x.toNatClampNeg
    · rw [if_pos hj, if_pos ⟨rfl, hj⟩]
    · rw [if_neg hj, if_neg (fun q => hj q.2)]
  have kk : ∀ (H1 : Heap) (locs1 : List Loc), va_P D am_cl ((am_ws base cy m).set i (base + i, .inl (cy (14 + ci), am_L m (i + 1), .inr (.inr (.inr (.inr (va_up (fun j => am_ro base (am_R m (i + 1) j)) x.toNatClampNeg (am_ro base v)))))))) H1 → va_D (fun q => base ≤ q) ((am_ws base cy m).set i (base + i, .inl (cy (14 + ci), am_L m (i + 1), .inr (.inr (.inr (.inr (va_up (fun j => am_ro base (am_R m (i + 1) j)) x.toNatClampNeg (am_ro base v)))))))) → va_S (fun q => base ≤ q) s.heap H1 locs1 →
      W p l e R s mid args below meth c H1 locs1 cells slots (am_End base b D cy R s below Q) (F0 mid (pc + 1) la (st.map (am_sh base b))) := by
    intro H1 locs1 hP1 _ hS1
    rw [hws] at hP1
    refine am_fix hP1 hS1 C.2.2.1.2.2.2.2.2.2.2.1 C.2.2.2.2.2.2.2.2 (fun hz => ?_)
    exact h p l e base b D cy R s mid args below meth c H1 locs1 cells slots la (am_ctx_put C hP1 hS1 hz rfl (fun _ => rfl)) hla
  rcases hv with rfl | hv
  · exact va_astqN (rest := st.map (am_sh base b)) C.1 (am_C.b C) C.2.2.1.2.2.2.2.1 hP am_ws_D C.2.2.2.2.2.2.2.1 i (3 + ci) he ht hx hd kk
  · obtain ⟨iv, rfl, hiv⟩ := am_K_ix hO hv (by omega)
    have hev := am_ws_get (base := base) (cy := cy) hiv
    rw [am_cell_o hv (by omega)] at hev
    exact va_astq (rest := st.map (am_sh base b)) C.1 (am_C.b C) C.2.2.1.2.2.2.2.1 hP am_ws_D C.2.2.2.2.2.2.2.1 i (3 + ci) iv ci he ht hev hCn.2 hx hd kk
theorem am_fixN {p : Program} {l : Launch} {e : Env} {R : Room} {s : State} {mid : MethodId} {args : Array Value} {below : List Frame} {meth : Method} {c : Code} {H : Heap} {locs : List Loc} {cells slots : Nat} {Q : State → Prop} {g : JFrame} {base : Nat} {D : va_G} {cy : Nat → ClassId} {m : am_Mem} {a : Nat} {E : va_E}
    (hP : va_P D am_cl (am_ws base cy m ++ [(a, E)]) H) (hD : va_D (fun q => base ≤ q) (am_ws base cy m ++ [(a, E)])) (hex : s.heap.size + cells = base + am_n m)
    (h : a = base + am_n m → H.size = base + am_n m + 1 → W p l e R s mid args below meth c H locs (cells + 1) slots Q g) : W p l e R s mid args below meth c H locs (cells + 1) slots Q g := by
  intro T hT X
  have h1 := X.heapSize
  rw [hT] at h1
  have hl : (am_ws base cy m ++ [(a, E)])[am_n m]? = some (a, E) := by
    rw [List.getElem?_append_right (by rw [am_ws_len]; exact Nat.le_refl _), am_ws_len, Nat.sub_self]
    rfl
  have h2 : a < H.size := (hP _ _ hl).lt
  have h3 : base ≤ a := hD.2 _ _ hl
  have h4 : a = base + am_n m := by
    by_cases hq : a < base + am_n m
    · have hi : a - base < am_n m := by omega
      have e1 : (am_ws base cy m ++ [(a, E)])[a - base]? = some (base + (a - base), am_cell base cy m (a - base + 1)) := by
        rw [List.getElem?_append_left (by rw [am_ws_len]; exact hi), am_ws_get hi]
      have e2 := hD.1 (a - base) (am_n m) _ _ e1 hl (by show base + (a - base) = a; omega)
      omega
    · omega
  exact h h4 (by omega) T hT X
theorem am_ctx_new {sc : Nat × (Nat → Int32)} {k : Nat} {m m' : am_Mem} {p : Program} {l : Launch} {base b : Nat} {D : va_G} {cy : Nat → ClassId} {R : Room} {s : State} {mid : MethodId} {meth : Method} {c : Code} {H H1 : Heap} {locs locs1 : List Loc} {cells slots : Nat}
    (C : am_Ctx sc k m p l base b D cy R s mid meth c H locs cells slots) (hP : va_P D am_cl (am_ws base cy m') H1) (hS : va_S (fun q => base ≤ q) s.heap H1 locs1) (hz : H1.size = base + am_n m + 1) {sz : Nat} (h1 : m'.1 = (am_n m + 1, am_u m + sz)) (h2 : ∀ a, a ≠ am_n m + 1 → am_K m' a = am_K m a) (hc : am_n m + 1 ≤ am_CM) (hs : am_u m + sz ≤ am_SM) :
    am_Ctx sc k m' p l base b D cy R s mid meth c H1 locs1 (cells + 1) (slots + sz) := by
  have hn : am_n m' = am_n m + 1 := congrArg Prod.fst h1
  have hu : am_u m' = am_u m + sz := congrArg Prod.snd h1
  refine ⟨C.1, C.2.1, C.2.2.1, C.2.2.2.1, C.2.2.2.2.1, ?_, ⟨hP, by omega, fun a ha => ?_⟩, hS, ?_⟩
  · have h9 := C.2.2.2.2.2.1
    unfold am_Rm at h9 ⊢
    rw [hn, hu]
    omega
  · rw [hn] at ha
    rw [h2 a (by omega)]
    exact C.2.2.2.2.2.2.1.2.2 a (by omega)
  · have h9 := C.2.2.2.2.2.2.2.2
    omega
theorem am_new_cell {base : Nat} {cy : Nat → ClassId} {m : am_Mem} {kd len sz : Nat} {c : Nat} (h : c ≤ am_n m) : am_cell base cy (am_new m kd len sz) c = am_cell base cy m c := by
  have hne : ¬ c = m.1.1 + 1 := by
    have : c ≤ m.1.1 := h
    omega
  exact am_cell_congr (if_neg hne) (if_neg hne) (fun _ => if_neg hne) (fun _ => if_neg hne) (fun _ => if_neg hne)
theorem am_new_K {m : am_Mem} {kd len sz : Nat} : am_K (am_new m kd len sz) (am_n m + 1) = kd := if_pos rfl
theorem am_new_L {m : am_Mem} {kd len sz : Nat} : am_L (am_new m kd len sz) (am_n m + 1) = len := if_pos rfl
theorem am_new_Ko {m : am_Mem} {kd len sz a : Nat} (h : a ≠ am_n m + 1) : am_K (am_new m kd len sz) a = am_K m a := if_neg h
theorem am_rm {sc : Nat × (Nat → Int32)} {k : Nat} {m : am_Mem} {p : Program} {l : Launch} {base b : Nat} {D : va_G} {cy : Nat → ClassId} {R : Room} {s : State} {mid : MethodId} {meth : Method} {c : Code} {H : Heap} {locs : List Loc} {cells slots : Nat} (C : am_Ctx sc k m p l base b D cy R s mid meth c H locs cells slots) {sz : Nat} (hc : am_n m + 1 ≤ am_CM) (hs : am_u m + sz ≤ am_SM) : cells + 1 ≤ R.cells ∧ slots + sz ≤ R.slots := by
  have h9 := C.2.2.2.2.2.1
  unfold am_Rm at h9
  omega
def am_dv (kd : Nat) : Value := match kd with
  | 0 => .int 0
  | 1 => .long 0
  | _ => .null
theorem am_kt_dv {kd : Nat} {t : FieldType} (h : am_kt kd t = true) : defaultValue t = am_dv kd := by
  unfold am_kt at h
  split at h <;> first | rfl | cases h
theorem am_newo {sc : Nat × (Nat → Int32)} {k pc q : Nat} {ls st : List Value} {m : am_Mem} {Q : am_Out → am_Mem → Prop} {idx ci N : Nat} (hd : am_at k pc (.new idx) 3 q) (hci : ci < 8) (hN : (am_fk ci).length = N) (hw : Cond.classLink (am_y k).cls idx (am_r ci).1 ∈ lw_tbl) (hi : Cond.instantiable (am_r ci).1 N ∈ lw_tbl) (hin : Cond.initialized (am_r ci).1 ∈ lw_tbl) (hc : am_n m + 1 ≤ am_CM) (hs : am_u m + N ≤ am_SM)
    (h : am_W sc k q ls (.ref (am_n m + 1) :: st) (am_new m ci 0 N) Q) : am_W sc k pc ls st m Q := by
  obtain ⟨hd, rfl⟩ := hd
  subst hN
  intro p l e base b D cy R s mid args below meth c H locs cells slots la C hla
  obtain ⟨hP, hz0, hO⟩ := C.2.2.2.2.2.2.1
  have cp := am_cp hci
  have hrm := am_rm C hc hs
  have hi2 : Cond.instantiable (am_r ci).1 (am_r ci).2.2 ∈ lw_tbl := by rw [cp.2.1]; exact hi
  have hfs : ∀ j, j < (am_r ci).2.2 → defaultValue (am_ty ci j) = vp_V (am_fl base (am_new m ci 0 (am_fk ci).length) (am_n m + 1) (am_fk ci) 0) j := by
    intro j hj
    rw [cp.2.1] at hj
    have h9 := cp.2.2.2.2.2.2 j hj
    have hg : (am_fk ci)[j]? = some ((am_fk ci).getD j 3) := by
      rw [List.getD_eq_getElem?_getD, List.getElem?_eq_getElem hj]; rfl
    rw [am_kt_dv h9]
    generalize (am_fk ci).getD j 3 = kd at hg
    show _ = ((am_fl base (am_new m ci 0 (am_fk ci).length) (am_n m + 1) (am_fk ci) 0)).getD j .null
    rw [List.getD_eq_getElem?_getD, am_fl_get (am_fk ci) 0 j _ hg]
    show _ = am_fv base (am_new m ci 0 (am_fk ci).length) (am_n m + 1) kd (0 + j)
    unfold am_dv am_fv
    have z1 : am_I (am_new m ci 0 (am_fk ci).length) (am_n m + 1) (0 + j) = 0 := if_pos rfl
    have z2 : am_J (am_new m ci 0 (am_fk ci).length) (am_n m + 1) (0 + j) = 0 := if_pos rfl
    have z3 : am_R (am_new m ci 0 (am_fk ci).length) (am_n m + 1) (0 + j) = 0 := if_pos rfl
    rw [z1, z2, z3]
    match kd with
    | 0 => rfl
    | 1 => rfl
    | _ + 2 => rfl
  refine va_new (rest := st.map (am_sh base b)) (Ts := u_ws (am_r ci).1 (am_r ci).2.1 (am_r ci).2.2) C.1 (am_C.b C) (fun w hw => am_C.w C (cp.2.2.1 w hw) (cp.2.2.2.1 w hw)) (fun w h => h) (am_ty ci) cp.2.2.2.2.1 (am_C.own C) (am_C.w C hw rfl) (am_C.w C hi2 rfl) (am_C.w C hin rfl) C.2.2.1.2.2.2.2.1 hP am_ws_D C.2.2.2.2.2.2.2.1 (fun q hq => Nat.le_trans C.2.2.1.2.2.2.2.2.2.2.1 hq) cp.1 hfs hrm.1 (by rw [cp.2.1]; exact hrm.2) hd (fun a H1 hP1 hD1 hS1 => ?_)
  refine am_fixN hP1 hD1 C.2.2.2.2.2.2.2.2 (fun ha hz => ?_)
  subst ha
  rw [am_ws_new (m' := am_new m ci 0 (am_fk ci).length) rfl (fun c hc => am_new_cell hc) (am_cell_o am_new_K (by omega))] at hP1
  rw [cp.2.1]
  exact h p l e base b D cy R s mid args below meth c H1 locs (cells + 1) (slots + (am_fk ci).length) la (am_ctx_new C hP1 hS1 hz rfl (fun a ha => am_new_Ko ha) hc hs) hla
end
section
/-! new arrays, clone, arraycopy, Math, Object.<init> -/
theorem am_tyl (cy : Nat → ClassId) : (am_tys cy).length = 8 := by simp [am_tys]
theorem am_newI {m : am_Mem} {kd len sz : Nat} : am_I (am_new m kd len sz) (am_n m + 1) = fun _ => 0 := funext fun _ => if_pos rfl
theorem am_newJ {m : am_Mem} {kd len sz : Nat} : am_J (am_new m kd len sz) (am_n m + 1) = fun _ => 0 := funext fun _ => if_pos rfl
theorem am_newR {m : am_Mem} {kd len sz : Nat} (j : Nat) : am_R (am_new m kd len sz) (am_n m + 1) j = 0 := if_pos rfl
theorem am_newaI {sc : Nat × (Nat → Int32)} {k pc q : Nat} {ls st : List Value} {m : am_Mem} {Q : am_Out → am_Mem → Prop} {x : Int32} {N : Nat} (hd : am_at k pc (.newarray .int) 2 q) (hw : Cond.arrayClass .int ∈ lw_tbl) (hx : ¬ x < 0) (hN : x.toNatClampNeg = N) (hb : N ≤ 60000) (hc : am_n m + 1 ≤ am_CM) (hs : am_u m + N ≤ am_SM)
    (h : am_W sc k q ls (.ref (am_n m + 1) :: st) (am_new m 11 N N) Q) : am_W sc k pc ls (.int x :: st) m Q := by
  obtain ⟨hd, rfl⟩ := hd
  intro p l e base b D cy R s mid args below meth c H locs cells slots la C hla
  obtain ⟨hP, hz0, hO⟩ := C.2.2.2.2.2.2.1
  have hrm := am_rm C hc hs
  refine va_newa (rest := st.map (am_sh base b)) (atype := .int) (ty := .int) (a0 := (N, .inl (fun _ => 0))) C.1 (am_C.b C) (am_C.w C hw rfl) rfl C.2.2.1.2.2.2.2.1 hP am_ws_D C.2.2.2.2.2.2.2.1 (fun q hq => Nat.le_trans C.2.2.1.2.2.2.2.2.2.2.1 hq) (fun cA => rfl) hx hN (by show N * _ ≤ _; simp [componentBytes]; omega) hrm.1 hrm.2 hd (fun a cA H1 hK1 hP1 hD1 hS1 => ?_)
  have hcA : cA = cy 11 := by
    have h1 := (hK1.2 8 (cA, .int) (by rw [List.getElem?_append_right (by rw [am_tyl]; exact Nat.le_refl _), am_tyl]; rfl)).2
    have h2 := (C.2.2.1.2.2.2.2.1.2 0 (cy 11, .int) (am_tys_at cy (by decide))).2
    exact Option.some.inj ((show s.vm.findClass _ = some cA from h1).symm.trans h2)
  subst hcA
  refine am_fixN hP1 hD1 C.2.2.2.2.2.2.2.2 (fun ha hz => ?_)
  subst ha
  rw [am_ws_new (m' := am_new m 11 N N) rfl (fun c hc => am_new_cell hc) (by rw [am_cell_a am_new_K (by decide), am_ac_i am_new_K (by decide) (by decide), am_newI, am_new_L])] at hP1
  exact h p l e base b D cy R s mid args below meth c H1 locs (cells + 1) (slots + N) la (am_ctx_new C hP1 hS1 hz rfl (fun a ha => am_new_Ko ha) hc hs) hla
theorem am_newaJ {sc : Nat × (Nat → Int32)} {k pc q : Nat} {ls st : List Value} {m : am_Mem} {Q : am_Out → am_Mem → Prop} {x : Int32} {N : Nat} (hd : am_at k pc (.newarray .long) 2 q) (hw : Cond.arrayClass .long ∈ lw_tbl) (hx : ¬ x < 0) (hN : x.toNatClampNeg = N) (hb : N ≤ 60000) (hc : am_n m + 1 ≤ am_CM) (hs : am_u m + N ≤ am_SM)
    (h : am_W sc k q ls (.ref (am_n m + 1) :: st) (am_new m 12 N N) Q) : am_W sc k pc ls (.int x :: st) m Q := by
  obtain ⟨hd, rfl⟩ := hd
  intro p l e base b D cy R s mid args below meth c H locs cells slots la C hla
  obtain ⟨hP, hz0, hO⟩ := C.2.2.2.2.2.2.1
  have hrm := am_rm C hc hs
  refine va_newa (rest := st.map (am_sh base b)) (atype := .long) (ty := .long) (a0 := (N, .inr (.inl (fun _ => 0)))) C.1 (am_C.b C) (am_C.w C hw rfl) rfl C.2.2.1.2.2.2.2.1 hP am_ws_D C.2.2.2.2.2.2.2.1 (fun q hq => Nat.le_trans C.2.2.1.2.2.2.2.2.2.2.1 hq) (fun cA => rfl) hx hN (by show N * _ ≤ _; simp [componentBytes]; omega) hrm.1 hrm.2 hd (fun a cA H1 hK1 hP1 hD1 hS1 => ?_)
  have hcA : cA = cy 12 := by
    have h1 := (hK1.2 8 (cA, .long) (by rw [List.getElem?_append_right (by rw [am_tyl]; exact Nat.le_refl _), am_tyl]; rfl)).2
    have h2 := (C.2.2.1.2.2.2.2.1.2 1 (cy 12, .long) (am_tys_at cy (by decide))).2
    exact Option.some.inj ((show s.vm.findClass _ = some cA from h1).symm.trans h2)
  subst hcA
  refine am_fixN hP1 hD1 C.2.2.2.2.2.2.2.2 (fun ha hz => ?_)
  subst ha
  rw [am_ws_new (m' := am_new m 12 N N) rfl (fun c hc => am_new_cell hc) (by rw [am_cell_a am_new_K (by decide), am_ac_j am_new_K, am_newJ, am_new_L])] at hP1
  exact h p l e base b D cy R s mid args below meth c H1 locs (cells + 1) (slots + N) la (am_ctx_new C hP1 hS1 hz rfl (fun a ha => am_new_Ko ha) hc hs) hla
theorem am_newaZ {sc : Nat × (Nat → Int32)} {k pc q : Nat} {ls st : List Value} {m : am_Mem} {Q : am_Out → am_Mem → Prop} {x : Int32} {N : Nat} (hd : am_at k pc (.newarray .boolean) 2 q) (hw : Cond.arrayClass .boolean ∈ lw_tbl) (hx : ¬ x < 0) (hN : x.toNatClampNeg = N) (hb : N ≤ 60000) (hc : am_n m + 1 ≤ am_CM) (hs : am_u m + N ≤ am_SM)
    (h : am_W sc k q ls (.ref (am_n m + 1) :: st) (am_new m 13 N N) Q) : am_W sc k pc ls (.int x :: st) m Q := by
  obtain ⟨hd, rfl⟩ := hd
  intro p l e base b D cy R s mid args below meth c H locs cells slots la C hla
  obtain ⟨hP, hz0, hO⟩ := C.2.2.2.2.2.2.1
  have hrm := am_rm C hc hs
  refine va_newa (rest := st.map (am_sh base b)) (atype := .boolean) (ty := .boolean) (a0 := (N, .inl (fun _ => 0))) C.1 (am_C.b C) (am_C.w C hw rfl) rfl C.2.2.1.2.2.2.2.1 hP am_ws_D C.2.2.2.2.2.2.2.1 (fun q hq => Nat.le_trans C.2.2.1.2.2.2.2.2.2.2.1 hq) (fun cA => rfl) hx hN (by show N * _ ≤ _; simp [componentBytes]; omega) hrm.1 hrm.2 hd (fun a cA H1 hK1 hP1 hD1 hS1 => ?_)
  have hcA : cA = cy 13 := by
    have h1 := (hK1.2 8 (cA, .boolean) (by rw [List.getElem?_append_right (by rw [am_tyl]; exact Nat.le_refl _), am_tyl]; rfl)).2
    have h2 := (C.2.2.1.2.2.2.2.1.2 2 (cy 13, .boolean) (am_tys_at cy (by decide))).2
    exact Option.some.inj ((show s.vm.findClass _ = some cA from h1).symm.trans h2)
  subst hcA
  refine am_fixN hP1 hD1 C.2.2.2.2.2.2.2.2 (fun ha hz => ?_)
  subst ha
  rw [am_ws_new (m' := am_new m 13 N N) rfl (fun c hc => am_new_cell hc) (by rw [am_cell_a am_new_K (by decide), am_ac_i am_new_K (by decide) (by decide), am_newI, am_new_L])] at hP1
  exact h p l e base b D cy R s mid args below meth c H1 locs (cells + 1) (slots + N) la (am_ctx_new C hP1 hS1 hz rfl (fun a ha => am_new_Ko ha) hc hs) hla
theorem am_newq {sc : Nat × (Nat → Int32)} {k pc q : Nat} {ls st : List Value} {m : am_Mem} {Q : am_Out → am_Mem → Prop} {x : Int32} {N idx ci : Nat} (hd : am_at k pc (.anewarray idx) 3 q) (hci : ci < 5) (hw : Cond.classLink (am_y k).cls idx (am_r ci).1 ∈ lw_tbl) (hao : Cond.arrayOver (.object (am_r ci).1) ∈ lw_tbl) (hx : ¬ x < 0) (hN : x.toNatClampNeg = N) (hb : N ≤ 60000) (hc : am_n m + 1 ≤ am_CM) (hs : am_u m + N ≤ am_SM)
    (h : am_W sc k q ls (.ref (am_n m + 1) :: st) (am_new m (14 + ci) N N) Q) : am_W sc k pc ls (.int x :: st) m Q := by
  obtain ⟨hd, rfl⟩ := hd
  intro p l e base b D cy R s mid args below meth c H locs cells slots la C hla
  obtain ⟨hP, hz0, hO⟩ := C.2.2.2.2.2.2.1
  have hrm := am_rm C hc hs
  have hCn : am_an (3 + ci) = .object (am_r ci).1 := by
    match ci, hci with
    | 0, _ => rfl
    | 1, _ => rfl
    | 2, _ => rfl
    | 3, _ => rfl
    | 4, _ => rfl
  refine va_newq (rest := st.map (am_sh base b)) (N' := N) C.1 (am_C.b C) (am_C.own C) (am_C.w C hw rfl) (C.2.2.1.2.1 _ hao rfl) C.2.2.1.2.2.2.2.1 hP am_ws_D C.2.2.2.2.2.2.2.1 (fun q hq => Nat.le_trans C.2.2.1.2.2.2.2.2.2.2.1 hq) hx hN (by omega) hrm.1 hrm.2 hd (fun a cA H1 hK1 hP1 hD1 hS1 => ?_)
  have hcA : cA = cy (14 + ci) := by
    obtain ⟨-, -, -, -, -, h1⟩ := (hK1.2 8 (cA, .object (am_r ci).1) (by rw [List.getElem?_append_right (by rw [am_tyl]; exact Nat.le_refl _), am_tyl]; rfl)).2
    have ht := am_tys_at cy (j := 3 + ci) (by omega)
    rw [hCn, show 11 + (3 + ci) = 14 + ci by omega] at ht
    obtain ⟨-, -, -, -, -, h2⟩ := (C.2.2.1.2.2.2.2.1.2 (3 + ci) _ ht).2
    exact Option.some.inj (h1.symm.trans h2)
  subst hcA
  refine am_fixN hP1 hD1 C.2.2.2.2.2.2.2.2 (fun ha hz => ?_)
  subst ha
  rw [am_ws_new (m' := am_new m (14 + ci) N N) rfl (fun c hc => am_new_cell hc) (by
    rw [am_cell_a am_new_K (by omega), am_ac_r am_new_K (by omega), am_new_L]
    simp only [am_newR]
    rfl)] at hP1
  exact h p l e base b D cy R s mid args below meth c H1 locs (cells + 1) (slots + N) la (am_ctx_new C hP1 hS1 hz rfl (fun a ha => am_new_Ko ha) hc hs) hla
def am_cln : MethodName := ⟨"[I", "clone", "()Ljava/lang/Object;"⟩
def am_clo : MethodName := ⟨"java/lang/Object", "clone", "()Ljava/lang/Object;"⟩
theorem am_clone {sc : Nat × (Nat → Int32)} {k pc q : Nat} {ls st : List Value} {m : am_Mem} {Q : am_Out → am_Mem → Prop} {idx a : Nat} (hd : am_at k pc (.invokevirtual idx) 3 q) (hw : Cond.methodLink (am_y k).cls idx am_cln ∈ lw_tbl) (w1 : Cond.sameMethod "[I" "java/lang/Object" "clone" "()Ljava/lang/Object;" ∈ lw_tbl) (w2 : Cond.native am_clo ∈ lw_tbl) (w3 : Cond.instanceMethod am_clo ∈ lw_tbl) (w4 : Cond.selects "[I" am_cln am_clo ∈ lw_tbl) (w5 : Cond.castable "[I" "java/lang/Cloneable" ∈ lw_tbl)
    (hk : am_K m a = 11) (hf : 1 ≤ am_fr k) (hlo : am_cs st + 14 ≤ am_lo k) (hc : am_n m + 1 ≤ am_CM) (hs : am_u m + am_L m a ≤ am_SM)
    (h : am_W sc k q ls (.ref (am_n m + 1) :: st) (am_rowI (am_new m 11 (am_L m a) (am_L m a)) (am_n m + 1) (am_I m a)) Q) : am_W sc k pc ls (.ref a :: st) m Q := by
  obtain ⟨hd, rfl⟩ := hd
  intro p l e base b D cy R s mid args below meth c H locs cells slots la C hla
  obtain ⟨hP, hz0, hO⟩ := C.2.2.2.2.2.2.1
  obtain ⟨i, rfl, hi⟩ := am_K_ix hO hk (by decide)
  have hrm := am_rm C hc hs
  have he := am_ws_get (base := base) (cy := cy) hi
  rw [am_cell_a hk (by decide), am_ac_i hk (by decide) (by decide)] at he
  have hla1 := hla.1
  have hnm : s.vm.findClass "[I" = some (cy 11) := (C.2.2.1.2.2.2.2.1.2 0 (cy 11, .int) (am_tys_at cy (by decide))).2
  refine va_clone (rest := st.map (am_sh base b)) C.1 (am_C.b C) (by rw [hla1]; exact C.2.2.2.1.2.1) (am_C.own C) (am_C.w C hw rfl) (am_C.w C w1 rfl) (am_C.w C w2 rfl) (am_C.w C w3 rfl) (am_C.w C w4 rfl) (C.2.2.1.2.1 _ w5 rfl) C.2.2.1.2.2.2.2.1 hP am_ws_D C.2.2.2.2.2.2.2.1 (fun q hq => Nat.le_trans C.2.2.1.2.2.2.2.2.2.2.1 hq) i 0 he (am_tys_at cy (by decide)) hnm
    (fun j v hv => ?_) (Nat.le_trans hf C.2.2.2.2.1.1) (by rw [am_cs_sh]; exact Nat.le_trans hlo C.2.2.2.2.1.2) hrm.1 hrm.2 hd (fun a H1 hK1 hP1 hD1 hS1 => ?_)
  · have hj : j < (arrV (cy 11) (am_L m (i + 1)) (fun j => .int (am_I m (i + 1) j))).slots.size := (Array.getElem?_eq_some_iff.mp hv).1
    rw [arrV_size] at hj
    have h9 : (arrV (cy 11) (am_L m (i + 1)) (fun j => .int (am_I m (i + 1) j))).slots[j]? = some v := hv
    rw [arrV_read _ _ hj] at h9
    cases h9
    rfl
  refine am_fixN hP1 hD1 C.2.2.2.2.2.2.2.2 (fun ha hz => ?_)
  subst ha
  have e9 : am_K (am_rowI (am_new m 11 (am_L m (i + 1)) (am_L m (i + 1))) (am_n m + 1) (am_I m (i + 1))) (am_n m + 1) = 11 := am_new_K (len := am_L m (i + 1)) (sz := am_L m (i + 1))
  rw [am_ws_new (m' := am_rowI (am_new m 11 (am_L m (i + 1)) (am_L m (i + 1))) (am_n m + 1) (am_I m (i + 1))) rfl (fun c hc => by
      have hne : ¬ c = am_n m + 1 := by omega
      refine (am_cell_congr (m := am_new m 11 (am_L m (i + 1)) (am_L m (i + 1))) (m' := am_rowI (am_new m 11 (am_L m (i + 1)) (am_L m (i + 1))) (am_n m + 1) (am_I m (i + 1))) rfl rfl (fun _ => if_neg hne) (fun _ => rfl) (fun _ => rfl)).trans (am_new_cell (kd := 11) (len := am_L m (i + 1)) (sz := am_L m (i + 1)) hc)) (by
      rw [am_cell_a e9 (by decide), am_ac_i e9 (by decide) (by decide)]
      have e1 : am_L (am_rowI (am_new m 11 (am_L m (i + 1)) (am_L m (i + 1))) (am_n m + 1) (am_I m (i + 1))) (am_n m + 1) = am_L m (i + 1) := am_new_L (kd := 11) (sz := am_L m (i + 1))
      have e2 : am_I (am_rowI (am_new m 11 (am_L m (i + 1)) (am_L m (i + 1))) (am_n m + 1) (am_I m (i + 1))) (am_n m + 1) = am_I m (i + 1) := funext fun _ => if_pos rfl
      rw [e1, e2])] at hP1
  exact h p l e base b D cy R s mid args below meth c H1 locs (cells + 1) (slots + am_L m (i + 1)) la (am_ctx_new C hP1 hS1 hz rfl (fun a ha => am_new_Ko (kd := 11) (len := am_L m (i + 1)) (sz := am_L m (i + 1)) ha) hc hs) hla
theorem am_castI {sc : Nat × (Nat → Int32)} {k pc q : Nat} {ls st : List Value} {m : am_Mem} {Q : am_Out → am_Mem → Prop} {idx a : Nat} (hd : am_at k pc (.checkcast idx) 3 q) (hw : Cond.classLink (am_y k).cls idx "[I" ∈ lw_tbl) (hk : am_K m a = 11) (h : am_W sc k q ls (.ref a :: st) m Q) : am_W sc k pc ls (.ref a :: st) m Q := by
  obtain ⟨hd, rfl⟩ := hd
  intro p l e base b D cy R s mid args below meth c H locs cells slots la C hla
  obtain ⟨hP, hz0, hO⟩ := C.2.2.2.2.2.2.1
  obtain ⟨i, rfl, hi⟩ := am_K_ix hO hk (by decide)
  have he := am_ws_get (base := base) (cy := cy) hi
  rw [am_cell_a hk (by decide)] at he
  have hnm : s.vm.findClass "[I" = some (cy 11) := (C.2.2.1.2.2.2.2.1.2 0 (cy 11, .int) (am_tys_at cy (by decide))).2
  exact va_castA (rest := st.map (am_sh base b)) C.1 (am_C.b C) (am_C.own C) (am_C.w C hw rfl) hP i he hnm hd (h p l e base b D cy R s mid args below meth c H locs cells slots la C hla)
theorem am_mmax {sc : Nat × (Nat → Int32)} {k pc q : Nat} {ls st : List Value} {m : am_Mem} {Q : am_Out → am_Mem → Prop} {idx : Nat} {x y : Int32} (hd : am_at k pc (.invokestatic idx) 3 q) (hw : Cond.methodLink (am_y k).cls idx Lib.Math.max.name ∈ lw_tbl) (w1 : Cond.static Lib.Math.max.name ∈ lw_tbl) (w2 : Cond.initialized "java/lang/Math" ∈ lw_tbl) (w3 : Cond.code Lib.Math.max.name Lib.Math.max.code 2 (some .int) ∈ lw_tbl) (hf : 1 ≤ am_fr k) (hlo : am_cs st + 13 ≤ am_lo k)
    (h : am_W sc k q ls (.int (if x < y then y else x) :: st) m Q) : am_W sc k pc ls (.int y :: .int x :: st) m Q := by
  obtain ⟨hd, rfl⟩ := hd
  intro p l e base b D cy R s mid args below meth c H locs cells slots la C hla
  have h9 := C.2.2.2.2.2.1
  unfold am_Rm at h9
  have hla1 := hla.1
  exact va_mmax (rest := st.map (am_sh base b)) C.1 (am_C.b C) (by rw [hla1]; exact C.2.2.2.1.2.1) (am_C.own C) (am_C.w C hw rfl) (am_C.w C w1 rfl) (am_C.w C w2 rfl) (am_C.w C w3 rfl) (Nat.le_trans hf C.2.2.2.2.1.1) (by rw [am_cs_sh]; exact Nat.le_trans hlo C.2.2.2.2.1.2) (by omega) (by omega) hd (h p l e base b D cy R s mid args below meth c H locs cells slots la C hla)
theorem am_mmin {sc : Nat × (Nat → Int32)} {k pc q : Nat} {ls st : List Value} {m : am_Mem} {Q : am_Out → am_Mem → Prop} {idx : Nat} {x y : Int32} (hd : am_at k pc (.invokestatic idx) 3 q) (hw : Cond.methodLink (am_y k).cls idx Lib.Math.min.name ∈ lw_tbl) (w1 : Cond.static Lib.Math.min.name ∈ lw_tbl) (w2 : Cond.initialized "java/lang/Math" ∈ lw_tbl) (w3 : Cond.code Lib.Math.min.name Lib.Math.min.code 2 (some .int) ∈ lw_tbl) (hf : 1 ≤ am_fr k) (hlo : am_cs st + 13 ≤ am_lo k)
    (h : am_W sc k q ls (.int (if y < x then y else x) :: st) m Q) : am_W sc k pc ls (.int y :: .int x :: st) m Q := by
  obtain ⟨hd, rfl⟩ := hd
  intro p l e base b D cy R s mid args below meth c H locs cells slots la C hla
  have h9 := C.2.2.2.2.2.1
  unfold am_Rm at h9
  have hla1 := hla.1
  exact va_mmin (rest := st.map (am_sh base b)) C.1 (am_C.b C) (by rw [hla1]; exact C.2.2.2.1.2.1) (am_C.own C) (am_C.w C hw rfl) (am_C.w C w1 rfl) (am_C.w C w2 rfl) (am_C.w C w3 rfl) (Nat.le_trans hf C.2.2.2.2.1.1) (by rw [am_cs_sh]; exact Nat.le_trans hlo C.2.2.2.2.1.2) (by omega) (by omega) hd (h p l e base b D cy R s mid args below meth c H locs cells slots la C hla)
theorem am_oinit {sc : Nat × (Nat → Int32)} {k pc q : Nat} {ls st : List Value} {m : am_Mem} {Q : am_Out → am_Mem → Prop} {idx a : Nat} (hd : am_at k pc (.invokespecial idx) 3 q) (hw : Cond.methodLink (am_y k).cls idx objectInit ∈ lw_tbl) (w1 : Cond.instanceMethod objectInit ∈ lw_tbl) (w2 : Cond.code objectInit ⟨#[0xb1]⟩ 1 none ∈ lw_tbl) (hf : 1 ≤ am_fr k) (hlo : am_cs st + 12 ≤ am_lo k) (ha : ¬ a = 0)
    (h : am_W sc k q ls st m Q) : am_W sc k pc ls (.ref a :: st) m Q := by
  obtain ⟨hd, rfl⟩ := hd
  intro p l e base b D cy R s mid args below meth c H locs cells slots la C hla
  obtain ⟨i, rfl⟩ : ∃ i, a = i + 1 := ⟨a - 1, by omega⟩
  have hla1 := hla.1
  exact W.objInit (rest := st.map (am_sh base b)) C.1 (am_C.b C) (am_C.own C) (am_C.w C hw rfl) (am_C.w C w1 rfl) (am_C.w C w2 rfl) rfl (by show la.size = _; rw [hla1]; exact C.2.2.2.1.2.1.symm) rfl hd (Nat.le_trans hf C.2.2.2.2.1.1) (by show 2 * 0 + _ + 12 ≤ _; rw [am_cs_sh]; have := C.2.2.2.2.1.2; omega) (h p l e base b D cy R s mid args below meth c H locs cells slots la C hla)
theorem am_copyI {sc : Nat × (Nat → Int32)} {k pc q : Nat} {ls st : List Value} {m : am_Mem} {Q : am_Out → am_Mem → Prop} {idx a0 a1 : Nat} {x y z : Int32} (hd : am_at k pc (.invokestatic idx) 3 q) (hw : Cond.methodLink (am_y k).cls idx arraycopyName ∈ lw_tbl) (w1 : Cond.native arraycopyName ∈ lw_tbl) (w2 : Cond.static arraycopyName ∈ lw_tbl) (w3 : Cond.initialized "java/lang/System" ∈ lw_tbl) (hk0 : am_K m a0 = 11) (hk1 : am_K m a1 = 11)
    (h1 : ¬ x < 0) (h2 : ¬ y < 0) (h3 : ¬ z < 0) (h4 : x.toNatClampNeg + z.toNatClampNeg ≤ am_L m a0) (h5 : y.toNatClampNeg + z.toNatClampNeg ≤ am_L m a1) (hf : 1 ≤ am_fr k) (hlo : am_cs st + 18 ≤ am_lo k)
    (h : am_W sc k q ls st (am_rowI m a1 (va_cpy (am_I m a0) (am_I m a1) x.toNatClampNeg y.toNatClampNeg z.toNatClampNeg)) Q) : am_W sc k pc ls (.int z :: .int y :: .ref a1 :: .int x :: .ref a0 :: st) m Q := by
  obtain ⟨hd, rfl⟩ := hd
  intro p l e base b D cy R s mid args below meth c H locs cells slots la C hla
  obtain ⟨hP, hz0, hO⟩ := C.2.2.2.2.2.2.1
  obtain ⟨i0, rfl, hi0⟩ := am_K_ix hO hk0 (by decide)
  obtain ⟨i1, rfl, hi1⟩ := am_K_ix hO hk1 (by decide)
  have he0 := am_ws_get (base := base) (cy := cy) hi0
  rw [am_cell_a hk0 (by decide), am_ac_i hk0 (by decide) (by decide)] at he0
  have he1 := am_ws_get (base := base) (cy := cy) hi1
  rw [am_cell_a hk1 (by decide), am_ac_i hk1 (by decide) (by decide)] at he1
  have hla1 := hla.1
  have hws : (am_ws base cy m).set i1 (base + i1, .inl (cy 11, am_L m (i1 + 1), Sum.inl (va_cpy (am_I m (i0 + 1)) (am_I m (i1 + 1)) x.toNatClampNeg y.toNatClampNeg z.toNatClampNeg))) = am_ws base cy (am_rowI m (i1 + 1) (va_cpy (am_I m (i0 + 1)) (am_I m (i1 + 1)) x.toNatClampNeg y.toNatClampNeg z.toNatClampNeg)) := by
    refine am_ws_upd rfl (fun c hc => am_cell_congr rfl rfl ?_ ?_ (fun _ => rfl)) ?_
    · first | exact fun _ => rfl | exact fun j => if_neg hc
    · first | exact fun _ => rfl | exact fun j => if_neg hc
    · have e9 : am_K (am_rowI m (i1 + 1) (va_cpy (am_I m (i0 + 1)) (am_I m (i1 + 1)) x.toNatClampNeg y.toNatClampNeg z.toNatClampNeg)) (i1 + 1) = 11 := hk1
      rw [am_cell_a e9 (by decide), am_ac_i e9 (by decide) (by decide)]
      have e2 : am_I (am_rowI m (i1 + 1) (va_cpy (am_I m (i0 + 1)) (am_I m (i1 + 1)) x.toNatClampNeg y.toNatClampNeg z.toNatClampNeg)) (i1 + 1) = va_cpy (am_I m (i0 + 1)) (am_I m (i1 + 1)) x.toNatClampNeg y.toNatClampNeg z.toNatClampNeg := funext fun _ => if_pos rfl
      rw [e2]
      rfl
  refine va_copyi (rest := st.map (am_sh base b)) C.1 (am_C.b C) (by rw [hla1]; exact C.2.2.2.1.2.1) (am_C.own C) (am_C.w C hw rfl) (am_C.w C w1 rfl) (am_C.w C w2 rfl) (am_C.w C w3 rfl) C.2.2.1.2.2.2.2.1 hP am_ws_D C.2.2.2.2.2.2.2.1 i0 i1 0 0 he0 he1 (am_tys_at cy (by decide)) (am_tys_at cy (by decide)) rfl h1 h2 h3 h4 h5 (fun _ _ => rfl) (Nat.le_trans hf C.2.2.2.2.1.1)
    (by rw [am_cs_sh]; have e1 : nativeFrameWords "java/lang/System" "arraycopy" 5 = 7 := by decide +kernel
        rw [e1]; exact Nat.le_trans hlo C.2.2.2.2.1.2) hd (fun H1 locs1 hP1 _ hS1 => ?_)
  rw [hws] at hP1
  refine am_fix hP1 hS1 C.2.2.1.2.2.2.2.2.2.2.1 C.2.2.2.2.2.2.2.2 (fun hz => ?_)
  exact h p l e base b D cy R s mid args below meth c H1 locs1 cells slots la (am_ctx_put C hP1 hS1 hz rfl (fun _ => rfl)) hla
theorem am_copyJ {sc : Nat × (Nat → Int32)} {k pc q : Nat} {ls st : List Value} {m : am_Mem} {Q : am_Out → am_Mem → Prop} {idx a0 a1 : Nat} {x y z : Int32} (hd : am_at k pc (.invokestatic idx) 3 q) (hw : Cond.methodLink (am_y k).cls idx arraycopyName ∈ lw_tbl) (w1 : Cond.native arraycopyName ∈ lw_tbl) (w2 : Cond.static arraycopyName ∈ lw_tbl) (w3 : Cond.initialized "java/lang/System" ∈ lw_tbl) (hk0 : am_K m a0 = 12) (hk1 : am_K m a1 = 12)
    (h1 : ¬ x < 0) (h2 : ¬ y < 0) (h3 : ¬ z < 0) (h4 : x.toNatClampNeg + z.toNatClampNeg ≤ am_L m a0) (h5 : y.toNatClampNeg + z.toNatClampNeg ≤ am_L m a1) (hf : 1 ≤ am_fr k) (hlo : am_cs st + 18 ≤ am_lo k)
    (h : am_W sc k q ls st (am_rowJ m a1 (va_cpy (am_J m a0) (am_J m a1) x.toNatClampNeg y.toNatClampNeg z.toNatClampNeg)) Q) : am_W sc k pc ls (.int z :: .int y :: .ref a1 :: .int x :: .ref a0 :: st) m Q := by
  obtain ⟨hd, rfl⟩ := hd
  intro p l e base b D cy R s mid args below meth c H locs cells slots la C hla
  obtain ⟨hP, hz0, hO⟩ := C.2.2.2.2.2.2.1
  obtain ⟨i0, rfl, hi0⟩ := am_K_ix hO hk0 (by decide)
  obtain ⟨i1, rfl, hi1⟩ := am_K_ix hO hk1 (by decide)
  have he0 := am_ws_get (base := base) (cy := cy) hi0
  rw [am_cell_a hk0 (by decide), am_ac_j hk0] at he0
  have he1 := am_ws_get (base := base) (cy := cy) hi1
  rw [am_cell_a hk1 (by decide), am_ac_j hk1] at he1
  have hla1 := hla.1
  have hws : (am_ws base cy m).set i1 (base + i1, .inl (cy 12, am_L m (i1 + 1), Sum.inr (Sum.inl (va_cpy (am_J m (i0 + 1)) (am_J m (i1 + 1)) x.toNatClampNeg y.toNatClampNeg z.toNatClampNeg)))) = am_ws base cy (am_rowJ m (i1 + 1) (va_cpy (am_J m (i0 + 1)) (am_J m (i1 + 1)) x.toNatClampNeg y.toNatClampNeg z.toNatClampNeg)) := by
    refine am_ws_upd rfl (fun c hc => am_cell_congr rfl rfl ?_ ?_ (fun _ => rfl)) ?_
    · first | exact fun _ => rfl | exact fun j => if_neg hc
    · first | exact fun _ => rfl | exact fun j => if_neg hc
    · have e9 : am_K (am_rowJ m (i1 + 1) (va_cpy (am_J m (i0 + 1)) (am_J m (i1 + 1)) x.toNatClampNeg y.toNatClampNeg z.toNatClampNeg)) (i1 + 1) = 12 := hk1
      rw [am_cell_a e9 (by decide), am_ac_j e9]
      have e2 : am_J (am_rowJ m (i1 + 1) (va_cpy (am_J m (i0 + 1)) (am_J m (i1 + 1)) x.toNatClampNeg y.toNatClampNeg z.toNatClampNeg)) (i1 + 1) = va_cpy (am_J m (i0 + 1)) (am_J m (i1 + 1)) x.toNatClampNeg y.toNatClampNeg z.toNatClampNeg := funext fun _ => if_pos rfl
      rw [e2]
      rfl
  refine va_copyl (rest := st.map (am_sh base b)) C.1 (am_C.b C) (by rw [hla1]; exact C.2.2.2.1.2.1) (am_C.own C) (am_C.w C hw rfl) (am_C.w C w1 rfl) (am_C.w C w2 rfl) (am_C.w C w3 rfl) C.2.2.1.2.2.2.2.1 hP am_ws_D C.2.2.2.2.2.2.2.1 i0 i1 1 1 he0 he1 (am_tys_at cy (by decide)) (am_tys_at cy (by decide)) rfl h1 h2 h3 h4 h5 (fun _ _ => rfl) (Nat.le_trans hf C.2.2.2.2.1.1)
    (by rw [am_cs_sh]; have e1 : nativeFrameWords "java/lang/System" "arraycopy" 5 = 7 := by decide +kernel
        rw [e1]; exact Nat.le_trans hlo C.2.2.2.2.1.2) hd (fun H1 locs1 hP1 _ hS1 => ?_)
  rw [hws] at hP1
  refine am_fix hP1 hS1 C.2.2.1.2.2.2.2.2.2.2.1 C.2.2.2.2.2.2.2.2 (fun hz => ?_)
  exact h p l e base b D cy R s mid args below meth c H1 locs1 cells slots la (am_ctx_put C hP1 hS1 hz rfl (fun _ => rfl)) hla
end
section
/-! ends of a method -/
theorem am_ofMQ {sc : Nat × (Nat → Int32)} {k : Nat} {m : am_Mem} {p : Program} {l : Launch} {e : Env} {base b : Nat} {D : va_G} {cy : Nat → ClassId} {R : Room} {s : State} {mid : MethodId} {args : Array Value} {below : List Frame} {meth : Method} {c : Code} {H : Heap} {locs : List Loc} {cells slots : Nat} {Q : am_Out → am_Mem → Prop} {g : JFrame} {v : Option Value}
    (C : am_Ctx sc k m p l base b D cy R s mid meth c H locs cells slots) (hq : Q (.inl v) m)
    (h : W p l e R s mid args below meth c H locs cells slots (MQ below (fun _ _ o t => o = .returned (v.map (am_sh base b)) ∧ t.heap = H) args s cells slots (fun q => base ≤ q)) g) :
    W p l e R s mid args below meth c H locs cells slots (am_End base b D cy R s below Q) g := by
  intro T hT X
  obtain ⟨t, a, o, h1, h2, ⟨h3, h4⟩, L, ⟨-, h5, h6⟩, h7⟩ := h T hT X
  have hS := C.2.2.2.2.2.2.2.1
  refine ⟨t, a, o, .inl v, m, L, cells, slots, h1, h2, hq, h3, ?_, C.2.2.2.2.2.1, h5, h6, ?_, C.2.2.2.2.2.2.2.2⟩
  · rw [h4]; exact C.2.2.2.2.2.2.1
  · rw [h4]; exact ⟨hS.1, hS.2.1, h7⟩
theorem am_iret {sc : Nat × (Nat → Int32)} {k pc q : Nat} {ls : List Value} {m : am_Mem} {Q : am_Out → am_Mem → Prop} {v : Int32} (hd : am_at k pc .ireturn 1 q) (hr : am_rt k = some .int) (hq : Q (.inl (some (.int v))) m) : am_W sc k pc ls [.int v] m Q := by
  obtain ⟨hd, -⟩ := hd
  intro p l e base b D cy R s mid args below meth c H locs cells slots la C hla
  exact am_ofMQ C hq (W.iret C.1 (am_C.b C) (C.2.2.2.1.2.2.1.trans hr) (fun t ht _ => ⟨rfl, ht⟩) C.2.2.2.2.2.2.2.1.2.2 hd C.2.2.2.1.2.2.2.1)
theorem am_zret {sc : Nat × (Nat → Int32)} {k pc q : Nat} {ls : List Value} {m : am_Mem} {Q : am_Out → am_Mem → Prop} {v : Int32} (hd : am_at k pc .ireturn 1 q) (hr : am_rt k = some .boolean) (hv : v = 0 ∨ v = 1) (hq : Q (.inl (some (.int v))) m) : am_W sc k pc ls [.int v] m Q := by
  obtain ⟨hd, -⟩ := hd
  intro p l e base b D cy R s mid args below meth c H locs cells slots la C hla
  exact am_ofMQ C hq (W.zret C.1 (am_C.b C) (C.2.2.2.1.2.2.1.trans hr) (by rcases hv with rfl | rfl <;> rfl) (fun t ht _ => ⟨rfl, ht⟩) C.2.2.2.2.2.2.2.1.2.2 hd C.2.2.2.1.2.2.2.1)
theorem am_lret {sc : Nat × (Nat → Int32)} {k pc q : Nat} {ls : List Value} {m : am_Mem} {Q : am_Out → am_Mem → Prop} {v : Int64} (hd : am_at k pc .lreturn 1 q) (hr : am_rt k = some .long) (hq : Q (.inl (some (.long v))) m) : am_W sc k pc ls [.long v] m Q := by
  obtain ⟨hd, -⟩ := hd
  intro p l e base b D cy R s mid args below meth c H locs cells slots la C hla
  exact am_ofMQ C hq (W.lret C.1 (am_C.b C) (C.2.2.2.1.2.2.1.trans hr) (fun t ht _ => ⟨rfl, ht⟩) C.2.2.2.2.2.2.2.1.2.2 hd C.2.2.2.1.2.2.2.1)
theorem am_aret {sc : Nat × (Nat → Int32)} {k pc q : Nat} {ls : List Value} {m : am_Mem} {Q : am_Out → am_Mem → Prop} {x : Nat} {rt : FieldType} (hd : am_at k pc .areturn 1 q) (hr : am_rt k = some rt) (hrt : (∃ n, rt = .object n) ∨ ∃ t, rt = .array t) (hq : Q (.inl (some (.ref x))) m) : am_W sc k pc ls [.ref x] m Q := by
  obtain ⟨hd, -⟩ := hd
  intro p l e base b D cy R s mid args below meth c H locs cells slots la C hla
  exact am_ofMQ C hq (W.aret C.1 (am_C.b C) (C.2.2.2.1.2.2.1.trans hr) hrt (by cases x with | zero => exact Or.inl rfl | succ x => exact Or.inr ⟨_, rfl⟩) (fun t ht _ => ⟨rfl, ht⟩) C.2.2.2.2.2.2.2.1.2.2 hd C.2.2.2.1.2.2.2.1)
theorem am_vret {sc : Nat × (Nat → Int32)} {k pc q : Nat} {ls : List Value} {m : am_Mem} {Q : am_Out → am_Mem → Prop} (hd : am_at k pc .return_ 1 q) (hr : am_rt k = none) (hq : Q (.inl none) m) : am_W sc k pc ls [] m Q := by
  obtain ⟨hd, -⟩ := hd
  intro p l e base b D cy R s mid args below meth c H locs cells slots la C hla
  exact am_ofMQ C hq (W.vret C.1 (am_C.b C) (C.2.2.2.1.2.2.1.trans hr) (fun t ht _ => ⟨rfl, ht⟩) C.2.2.2.2.2.2.2.1.2.2 hd C.2.2.2.1.2.2.2.1)
/-! 'throw new E("text")', five instructions at once -/
def am_en2 : List String := ["java/lang/RuntimeException", "java/lang/Exception"]
/-- what a throw of the class kd needs of the tables -/
def am_tw (k kd ik is ic : Nat) (text : String) : Prop := 8 ≤ kd ∧ kd < 11 ∧ Bundle.fit (am_r kd).1 = true ∧ Cond.classLink (am_y k).cls ik (am_r kd).1 ∈ lw_tbl ∧ Cond.initialized (am_r kd).1 ∈ lw_tbl ∧ Cond.stringRef (am_y k).cls is text ∈ lw_tbl ∧
  (∀ w ∈ vx_atS (am_y k).cls ic (am_r kd).1 am_en2, w ∈ lw_tbl) ∧ (∀ w ∈ vx_atS (am_y k).cls ic (am_r kd).1 am_en2, (goodWord w || am_xk w) = true) ∧ (∀ w ∈ vx_atS (am_y k).cls ic (am_r kd).1 am_en2, vx_ot w = true)
theorem am_clE {kd : Nat} (h8 : 8 ≤ kd) (h11 : kd < 11) : am_cl[kd]? = some (am_r kd) ∧ am_fk kd = [] ∧ (am_r kd).2.2 = 0 := by
  match kd, h8, h11 with
  | 8, _, _ => exact ⟨rfl, rfl, rfl⟩
  | 9, _, _ => exact ⟨rfl, rfl, rfl⟩
  | 10, _, _ => exact ⟨rfl, rfl, rfl⟩
set_option maxHeartbeats 1000000 in
theorem am_throw {sc : Nat × (Nat → Int32)} {k pc : Nat} {ls st : List Value} {m : am_Mem} {Q : am_Out → am_Mem → Prop} {kd ik is ic : Nat} {text : String} (hw : am_tw k kd ik is ic text) (hh : am_hs k = [])
    (d0 : decode (am_b k) pc = .ok (.new ik, 3)) (d3 : decode (am_b k) (pc + 3) = .ok (.dup, 1)) (d4 : decode (am_b k) (pc + 4) = .ok (.ldc is, 2)) (d6 : decode (am_b k) (pc + 6) = .ok (.invokespecial ic, 3)) (d9 : decode (am_b k) (pc + 9) = .ok (.athrow, 1))
    (hf : 6 ≤ am_fr k) (hlo : am_cs st + 82 ≤ am_lo k) (hc : am_n m + 1 ≤ am_CM) (hs : am_u m + 6 ≤ am_SM) (hq : Q (.inr (am_n m + 1)) (am_new m kd 0 6)) : am_W sc k pc ls st m Q := by
  obtain ⟨hk8, hk11, hcls, wk, wini, wstr, wat, wgood, wot⟩ := hw
  intro p l e base b D cy R s mid args below meth c H locs cells slots la C hla
  obtain ⟨hexec, hl, hF, hFr, hRm, hRmm, ⟨hP, hz0, hO⟩, hS, hex⟩ := id C
  obtain ⟨F1, F2, F3, F4, hK, hX, hbb, hbs, hU, hN⟩ := id hF
  obtain ⟨sa, hstr⟩ := F3 _ _ _ wstr
  have hb : c.code = am_b k := hFr.1
  have hown := am_C.own C
  have hlocks : meth.locks = false := hFr.2.2.2.1
  have hrm := am_rm C hc hs
  have hsize : la.size = c.maxLocals := by rw [hla.1]; exact hFr.2.1.symm
  have hk := am_C.w C wk rfl (args := args)
  have hini := am_C.w C wini rfl (args := args)
  have hat : ∀ w ∈ vx_atS (am_y k).cls ic (am_r kd).1 am_en2, w.before args s = true := by
    intro w hw9
    have hg := wgood w hw9
    rw [Bool.or_eq_true] at hg
    rcases hg with hg | hg
    · exact F1 w (wat w hw9) hg args
    · refine va_tabs (A := #[]) ?_ rfl (F2 w (wat w hw9) hg)
      have := wot w hw9
      cases w <;> first | rfl | (cases hg; done) | exact this
  have hout : ∀ x ∈ c.exceptionTable.toList, covers x (pc + 9) = false := by
    have h9 := hFr.2.2.2.2.2.2
    rw [hh] at h9
    rw [List.map_eq_nil_iff] at h9
    rw [h9]
    exact fun x hx => nomatch hx
  intro T hT X
  have htr : e.platform.stackTraces = false := (show e.platform.stackTraces = l.stackTraces by rw [X.admits.platform]).trans hl
  have Y := vx_rebase X (R' := { frames := R.frames, locals := R.locals, cells := 1, slots := 6 }) (Nat.le_refl _) (Nat.le_refl _) hrm.1 hrm.2
  obtain ⟨s', hA⟩ : ∃ z, z = (T.setVm s.vm).setFrames (.invoking mid args :: below) := ⟨_, rfl⟩
  rw [← hA] at Y
  have hvm : s'.vm = s.vm := by rw [hA]; rfl
  have hhp : s'.heap = H := by rw [hA]; exact hT
  have hW0 : s.WarmedH s'.vm := by rw [hvm]; exact State.WarmedH.refl s
  have hat' : ∀ w ∈ vx_atS (am_y k).cls ic (am_r kd).1 am_en2, w.before args s' = true := fun w hw => vx_ot_at hW0 hvm.symm (wot w hw) (hat w hw)
  have hk' : (Cond.classLink (am_y k).cls ik (am_r kd).1).before args s' = true := vx_ot_at hW0 hvm.symm rfl hk
  have hini' : (Cond.initialized (am_r kd).1).before args s' = true := vx_ot_at hW0 hvm.symm rfl hini
  have hU' : vx_Zq Bundle.tN "UNASSIGNED_STACK" Bundle.steD (fun q => base ≤ q) s' s'.heap := by rw [hhp]; exact vx_Zq.moved hW0.alike (hU.kept hS.2.1)
  have hN' : vx_Zq Bundle.tN "SUPPRESSED_SENTINEL" Bundle.listD (fun q => base ≤ q) s' s'.heap := by rw [hhp]; exact vx_Zq.moved hW0.alike (hN.kept hS.2.1)
  have h : ∀ w ∈ Bundle.ownAtoms (am_y k).cls ic (am_r kd).1 am_en2, w.before args s' = true := vx_own hat' (vx_isRefq hU'.1) (vx_isRefq hN'.1) hU'.2.word hN'.2.word
  have hown' : s'.vm.findClass (am_y k).cls = some mid.cls := by rw [hvm]; exact hown
  have hins : (Cond.instantiable (am_r kd).1 6).before args s' = true := h _ (by simp [Bundle.ownAtoms])
  obtain ⟨vm₁, cX, kX, hfX, hkX, -, -, X₁, st1⟩ := Y.newCold hexec (own := (am_y k).cls) (C := (am_r kd).1) (index := ik) (n := 6) hown' hk' hins hini'
    (g := F0 mid pc la (st.map (am_sh base b))) rfl (by rw [hb]; exact d0) (Nat.le_refl _) (Nat.le_refl _)
  generalize hT1 : (T.setVm vm₁).pushCell { cls := cX, slots := kX.instanceTypes.map defaultValue, vm := .none } = T1 at X₁ st1
  have hcat : (Value.ref T.heap.size).category = 1 := rfl
  have hcellA : T1.heap[T.heap.size]? = some (freshCell cX kX) := by rw [← hT1]; exact State.heap_pushCell_size _ _
  have d3' : decode c.code (pc + 3) = .ok (.dup, 1) := by rw [hb]; exact d3
  have d4' : decode c.code (pc + 4) = .ok (.ldc is, 2) := by rw [hb]; exact d4
  have hstr' : vk_R (am_y k).cls is text sa s' := vk_R.warm hW0 hstr
  have hsum := am_cs_sh base b st
  have hlo2 := Nat.le_trans hlo hRm.2
  obtain ⟨U, hsteps, hrun, hend, hW, hsame, ce, hce, hO2⟩ := X₁.ctorThrowS hexec htr (own := (am_y k).cls) (cls := (am_r kd).1) (names := am_en2) (ic := ic) hown' hcls (by decide +kernel) h (fun x hx => nomatch hx) hfX hkX hcellA (by rw [hhp, hT]; exact Nat.le_refl _) (msg := .ref sa) rfl
    (g := { method := mid, pc := pc + 6, locals := la, stack := .ref sa :: .ref T.heap.size :: .ref T.heap.size :: st.map (am_sh base b), locked := none }) rfl hsize rfl rfl (rest := st.map (am_sh base b)) rfl
    (by rw [hb]; exact d6) (by rw [hb]; exact d9) hout (by show 2 + 3 < R.frames; have := Nat.le_trans hf hRm.1; omega) (by simp only [List.map_cons, List.sum_cons, hcat]; show 2 * 0 + _ + (13 * 3 + 42) ≤ R.locals; rw [hsum]; omega) hlocks
  obtain ⟨f1, f2⟩ := vx_frame hsame
  rw [hhp] at f1 f2
  have hWs : s.WarmedH U.vm := State.WarmedH.trans hW0 hW
  have hcl : s.vm.findClass (am_r kd).1 = some ce.cls := by
    have h9 := hO2.cls
    rw [hvm] at h9
    exact h9
  have hall : s.sameButNew ({ U with vm := s.vm } : State) locs (cells + 1) (slots + 6) := by
    subst hA
    obtain ⟨e1, e2⟩ := hsame
    rw [State.setFrames_setFrames] at e1
    have h2 : (T.setVm s.vm).sameButNew ({ U with vm := s.vm } : State) [] (0 + 1) (0 + 6) := ⟨e1, e2⟩
    have h3 := X.same.trans h2
    rw [List.append_nil] at h3
    exact h3.mono (Nat.le_refl _) (Nat.le_refl _)
  have hTH : T.heap.size = base + am_n m := by rw [hT]; exact hz0
  have hUsz : U.heap.size = base + am_n m + 1 := by
    have u1 : T.heap.size < U.heap.size := (Array.getElem?_eq_some_iff.mp hce).1
    have u2 : U.heap.size ≤ s.heap.size + (cells + 1) := hall.2.2.1
    omega
  have hold : ∀ q : Nat, q < H.size → U.heap[q]? = H[q]? := fun q hq => f2 q hq (fun z hz => nomatch hz)
  obtain ⟨hcl2, hfk0, hr0⟩ := am_clE hk8 hk11
  have hPn : va_P D am_cl (am_ws base cy (am_new m kd 0 6)) U.heap := by
    rw [← am_ws_new (m := m) (m' := am_new m kd 0 6) (E := .inr (kd, [])) rfl (fun c hc => am_new_cell hc) (by
      rw [am_cell_o am_new_K hk11, hfk0]
      rfl)]
    refine (hP.kept (fun k q hk => hold _ (hP k q hk).lt)).app (fun j q hj => ?_)
    have hj0 : j < 1 := (List.getElem?_eq_some_iff.mp hj).1
    rw [show j = 0 by omega] at hj
    cases hj
    refine ⟨am_r kd, hcl2, ce, by show U.heap[base + am_n m]? = _; rw [← hTH]; exact hce, ?_, hO2.vm, fun j hj => ?_⟩
    · exact Option.some.inj (hcl.symm.trans (hK.1 kd _ hcl2).2.1)
    · rw [hr0] at hj
      exact absurd hj (Nat.not_lt_zero _)
  have Cn := am_ctx_new (m' := am_new m kd 0 6) (sz := 6) (locs1 := locs) C hPn ⟨by have := hS.1; omega, fun q h1 h2 => (hold q (Nat.lt_of_lt_of_le h1 hS.1)).trans (hS.2.1 q h1 h2), hS.2.2⟩ hUsz rfl (fun a ha => am_new_Ko ha) hc hs
  refine ⟨U, ?_, .threw T.heap.size, .inr (am_n m + 1), am_new m kd 0 6, locs, cells + 1, slots + 6, hrun, hend, hq, ⟨am_n m, rfl, by rw [hTH]⟩, Cn.2.2.2.2.2.2.1, Cn.2.2.2.2.2.1, hWs, hall, Cn.2.2.2.2.2.2.2.1, Cn.2.2.2.2.2.2.2.2⟩
  refine st1 _ ?_
  show Steps p.tables e below (T1.setTop { method := mid, pc := pc + 3, locals := la, stack := .ref T.heap.size :: st.map (am_sh base b), locked := none }) _
  jvm_step X₁.here [X₁.here.top, hexec, d3', Value.category]
  exact X₁.ldcString hexec (own := (am_y k).cls) (text := text) (index := is) (a := sa) hown' hstr'.1 hstr'.2
    (g := { method := mid, pc := pc + 4, locals := la, stack := .ref T.heap.size :: .ref T.heap.size :: st.map (am_sh base b), locked := none }) rfl d4' _ hsteps
end
section
/-! calls -/
theorem am_steps_up {tb : Tables} {e : Env} {f : Frame} {below : List Frame} {s t : State} (h : Steps tb e (f :: below) s t) : Steps tb e below s t := by
  obtain ⟨n, hn, hw⟩ := h
  refine ⟨n, hn, fun k hk => ?_⟩
  obtain ⟨ab, h1, h2, h3⟩ := hw k hk
  refine ⟨ab ++ [f], by rw [h1]; simp, by simp, fun a h => ?_⟩
  cases ab with
  | nil => exact h2 rfl
  | cons x r =>
    have := congrArg List.length h
    simp at this
theorem am_F.moved {base b : Nat} {sc : Nat × (Nat → Int32)} {D : va_G} {cy : Nat → ClassId} {s U : State} (h : am_F base b sc D cy s) (hW : s.WarmedH U.vm) (hz : s.heap.size ≤ U.heap.size) (ho : ∀ q, q < s.heap.size → ¬ base ≤ q → U.heap[q]? = s.heap[q]?) : am_F base b sc D cy U := by
  obtain ⟨F1, F2, F3, F4, hK, hX, hbb, hbs, hU, hN⟩ := h
  refine ⟨fun w hw hg a => word_at hW (good_of_word hg) (F1 w hw hg #[]), fun w hw hg => ?_, fun own k tx hw => ?_, fun q hq => va_Nc.moved hW.alike (F4 q hq), va_K.moved hW.alike hK, ?_, hbb, Nat.le_trans hbs hz, ?_, ?_⟩
  · have h9 := F2 w hw hg
    cases w with
    | methodLinkNest a i x h => exact va_Nw.warmM hW h9
    | castable a c => exact va_Nw.warmC hW h9
    | declares x => exact va_Nw.warmD hW h9
    | arrayOver t => cases t with
      | object C => exact va_AO.moved hW.alike h9
      | _ => cases hg
    | _ => cases hg
  · obtain ⟨sa, h9⟩ := F3 own k tx hw
    exact ⟨sa, vk_R.warm hW h9⟩
  · exact va_X.moved hW.alike (hX.kept (ho b (Nat.lt_of_lt_of_le hbb hbs) (Nat.not_le.mpr hbb)))
  · exact vx_Zq.moved hW.alike (hU.kept ho)
  · exact vx_Zq.moved hW.alike (hN.kept ho)
/-- the object a is thrown over the frame of method k at pc -/
def am_TW (sc : Nat × (Nat → Int32)) (k pc : Nat) (ls rest : List Value) (a : Nat) (m : am_Mem) (Q : am_Out → am_Mem → Prop) : Prop :=
  ∀ (p : Program) (l : Launch) (e : Env) (base b : Nat) (D : va_G) (cy : Nat → ClassId) (R : Room) (s : State) (mid : MethodId) (args : Array Value) (below : List Frame) (meth : Method) (c : Code) (H : Heap) (locs : List Loc) (cells slots : Nat) (la : Array Slot) (x : Nat),
    am_Ctx sc k m p l base b D cy R s mid meth c H locs cells slots → am_ls base b ls la (am_ml k) → a = x + 1 → ∀ T : State, T.heap = H → Stand p l e R s mid args below meth c T locs cells slots →
    ∃ t, Steps p.tables e below ((T.setTop (F0 mid pc la (rest.map (am_sh base b)))).pushFrame (.throwing (base + x))) t ∧ am_End base b D cy R s below Q t
theorem am_out {sc : Nat × (Nat → Int32)} {k pc : Nat} {ls rest : List Value} {a : Nat} {m : am_Mem} {Q : am_Out → am_Mem → Prop} (hh : am_hs k = []) (hq : Q (.inr a) m) : am_TW sc k pc ls rest a m Q := by
  intro p l e base b D cy R s mid args below meth c H locs cells slots la x C hla hx T hT X
  have hout : ∀ y ∈ c.exceptionTable.toList, covers y (F0 mid pc la (rest.map (am_sh base b))).pc = false := by
    have h9 := C.2.2.2.1.2.2.2.2.2.2
    rw [hh, List.map_eq_nil_iff] at h9
    rw [h9]
    exact fun x hx => nomatch hx
  obtain ⟨st1, hrun, hend, hW, hsm⟩ := X.leaveThrown (base + x) (g := F0 mid pc la (rest.map (am_sh base b))) rfl rfl rfl hout C.2.2.2.1.2.2.2.1
  refine ⟨_, st1, .threw (base + x), .inr a, m, locs, cells, slots, hrun, hend, hq, ⟨x, hx, rfl⟩, ?_, C.2.2.2.2.2.1, hW, hsm, ?_, C.2.2.2.2.2.2.2.2⟩
  · show am_Rel base D cy m T.heap
    rw [hT]; exact C.2.2.2.2.2.2.1
  · show va_S _ s.heap T.heap locs
    rw [hT]; exact C.2.2.2.2.2.2.2.1
/-- the words of a handler's row: its class is the one of kind kd -/
theorem am_catch {sc : Nat × (Nat → Int32)} {k pc : Nat} {ls rest : List Value} {a kd : Nat} {m : am_Mem} {Q : am_Out → am_Mem → Prop} (pre : List (Nat × Nat × Nat × Nat)) (x0 : Nat × Nat × Nat × Nat) (suf : List (Nat × Nat × Nat × Nat)) (hh : am_hs k = pre ++ x0 :: suf)
    (hk : am_K m a = kd) (h8 : 8 ≤ kd) (h11 : kd < 11) (hx : x0.1 ≤ pc ∧ pc < x0.2.1) (h0 : x0.2.2.2 ≠ 0) (hw : Cond.classLink (am_y k).cls x0.2.2.2 (am_r kd).1 ∈ lw_tbl) (hc : Cond.castable (am_r kd).1 (am_r kd).1 ∈ lw_tbl)
    (hpre : ∀ y ∈ pre, y.2.2.2 ≠ 0 ∧ ∃ nm, Cond.classLink (am_y k).cls y.2.2.2 nm ∈ lw_tbl ∧ ((am_r kd).1, nm) ∈ am_ncs) (h : am_W sc k x0.2.2.1 ls [.ref a] m Q) : am_TW sc k pc ls rest a m Q := by
  intro p l e base b D cy R s mid args below meth c H locs cells slots la x C hla hax T hT X
  obtain ⟨hP, hz0, hO⟩ := C.2.2.2.2.2.2.1
  obtain ⟨F1, F2, F3, F4, hK, -⟩ := C.2.2.1
  obtain ⟨i, rfl, hi⟩ := am_K_ix hO hk (by omega)
  obtain rfl : i = x := by omega
  obtain ⟨hcl2, hfk0, hr0⟩ := am_clE h8 h11
  have he := am_ws_get (base := base) (cy := cy) hi
  rw [am_cell_o hk h11] at he
  obtain ⟨cell, g1, g2, g3⟩ := va_recv hK hP hcl2 he
  have hpl : e.platform.magicAccessors = ({} : Platform).magicAccessors := by rw [X.admits.platform]
  have hown := am_C.own C
  have hcast : (Cond.castable (am_r kd).1 (am_r kd).1).before args s = true := va_tabs (A := #[]) rfl rfl (F2 _ hc rfl)
  obtain ⟨c3, c4, hc3, hc4, hasg⟩ := Cond.castable_spec hcast
  cases Option.some.inj (hc3.symm.trans g3)
  obtain ⟨c5, hc5, hcl5⟩ := Cond.classLink_spec hown (am_C.w C hw rfl (args := args)) e.platform hpl
  cases Option.some.inj (hc4.symm.trans hc5)
  have htab := C.2.2.2.1.2.2.2.2.2.2
  rw [hh] at htab
  obtain ⟨L1, L2, hL, hL1, hL2⟩ := List.map_eq_append_iff.mp htab
  obtain ⟨y, L3, hL3, hy, hL4⟩ := List.map_eq_cons_iff.mp hL2
  subst hL3
  subst hy
  obtain ⟨vm', X', st⟩ := cx_caught X (base + i) (g := F0 mid pc la (rest.map (am_sh base b))) rfl (cell := cell) (by rw [hT]; exact g1) g2 (by obtain ⟨k9, h9, -⟩ := Vm.findClass_spec g3; exact ⟨k9, h9⟩) L1 y L3 hL
    (fun z hz => by
      have hz2 : (z.startPc, z.endPc, z.handlerPc, z.catchType) ∈ pre := by rw [← hL1]; exact List.mem_map.mpr ⟨z, hz, rfl⟩
      obtain ⟨n0, nm, w1, w2⟩ := hpre _ hz2
      obtain ⟨c6, hc6, hcl6⟩ := Cond.classLink_spec hown (am_C.w C w1 rfl (args := args)) e.platform hpl
      obtain ⟨a8, b8, q1, q2, q3⟩ := F4 _ w2
      cases Option.some.inj (q1.symm.trans g3)
      cases Option.some.inj (q2.symm.trans hc6)
      exact Or.inr ⟨n0, _, hcl6, q3⟩) (by simp only [covers]; simpa using hx) h0 hcl5 hasg
  obtain ⟨t, a1, b1⟩ := h p l e base b D cy R s mid args below meth c H locs cells slots la C hla (T.setVm vm') hT X'
  exact ⟨t, st t a1, b1⟩
/-! the entry of a callee -/
def am_en : List Value → List Value
  | [] => []
  | v :: r => if v.category = 2 then v :: .retAddr 1 :: am_en r else v :: am_en r
def am_ent (vs : List Value) (n : Nat) : List Value := am_en vs ++ List.replicate (n - (am_en vs).length) (.retAddr 1)
theorem am_en_sl (base b : Nat) : ∀ (vs : List Value), (am_en vs).length = (lg_sl (vs.map (am_sh base b))).length ∧ ∀ (i : Nat) (v : Value), (am_en vs)[i]? = some v → am_kn v = true → (lg_sl (vs.map (am_sh base b)))[i]? = some (.val (am_sh base b v)) := by
  intro vs
  induction vs with
  | nil => exact ⟨rfl, fun i v h => by simp [am_en] at h⟩
  | cons v r ih =>
    obtain ⟨h1, h2⟩ := ih
    have e1 : lg_sl ((v :: r).map (am_sh base b)) = (if (am_sh base b v).category = 2 then [.val (am_sh base b v), .second] else [.val (am_sh base b v)]) ++ lg_sl (r.map (am_sh base b)) := by
      simp [lg_sl]
    rw [e1, am_sh_cat]
    by_cases hc : v.category = 2
    · rw [if_pos hc]
      have e2 : am_en (v :: r) = v :: .retAddr 1 :: am_en r := by simp [am_en, hc]
      rw [e2]
      refine ⟨by simp [h1], fun i w hi hk => ?_⟩
      match i with
      | 0 =>
        simp at hi
        subst hi
        rfl
      | 1 =>
        simp at hi
        subst hi
        cases hk
      | i + 2 =>
        have h3 := h2 i w (by simpa using hi) hk
        simpa using h3
    · rw [if_neg hc]
      have e2 : am_en (v :: r) = v :: am_en r := by simp [am_en, hc]
      rw [e2]
      refine ⟨by simp [h1], fun i w hi hk => ?_⟩
      match i with
      | 0 =>
        simp at hi
        subst hi
        rfl
      | i + 1 =>
        have h3 := h2 i w (by simpa using hi) hk
        simpa using h3
theorem am_ent_ls (base b : Nat) (vs : List Value) (n : Nat) (hn : (am_en vs).length ≤ n) : am_ls base b (am_ent vs n) ((lg_sl (vs.map (am_sh base b)) ++ List.replicate (n - (lg_sl (vs.map (am_sh base b))).length) Slot.unset).toArray) n := by
  obtain ⟨h1, h2⟩ := am_en_sl base b vs
  obtain ⟨g1, g2, -⟩ := lv_entry (vs.map (am_sh base b)) (n := n) (by rw [← h1]; exact hn)
  refine ⟨g1, g2, fun i v hi hk => ?_⟩
  by_cases hl : i < (am_en vs).length
  · rw [am_ent, List.getElem?_append_left hl] at hi
    have h3 := h2 i v hi hk
    rw [List.getElem?_toArray, List.getElem?_append_left (by rw [← h1]; exact hl)]
    exact h3
  · rw [am_ent, List.getElem?_append_right (by omega), List.getElem?_replicate] at hi
    split at hi
    · cases hi
      cases hk
    · cases hi
/-- the code of method k2 is in the tables -/
def am_cd (k2 : Nat) : Prop := (Cond.code (am_y k2) (am_b k2) (am_ml k2) (am_rt k2) ∈ lw_tbl ∧ am_hs k2 = []) ∨ Cond.codeWith (am_y k2) (am_b k2) (am_ml k2) (am_rt k2) (am_hs k2) ∈ lw_tbl
theorem am_cd_at {s : State} {k2 : Nat} (hc : am_cd k2) (F1 : ∀ w ∈ lw_tbl, goodWord w = true → ∀ a, w.before a s = true) :
    ∃ mk meth2 c2, s.methodNamed? (am_y k2) = some mk ∧ s.vm.method? mk = some meth2 ∧ meth2.code = some c2 ∧ c2.code = am_b k2 ∧ c2.maxLocals = am_ml k2 ∧ meth2.sig.returnType = am_rt k2 ∧ meth2.locks = false ∧
      c2.exceptionTable.toList.map (fun h => (h.startPc, h.endPc, h.handlerPc, h.catchType)) = am_hs k2 ∧ parseMethodDescriptor (am_y k2).desc = some meth2.sig := by
  rcases hc with ⟨hw, hh⟩ | hw
  · have hcode := F1 _ hw rfl #[]
    obtain ⟨mk, hn⟩ := Cond.code_named hcode
    obtain ⟨meth2, c2, h1, h2, h3, h4, h5, h6, h7, h8⟩ := Cond.code_spec hn hcode
    refine ⟨mk, meth2, c2, hn, h1, h2, h3, h4, h5, h6, ?_, h8⟩
    have : c2.exceptionTable.toList = [] := by simpa using h7
    rw [this, hh]
    rfl
  · obtain ⟨mk, meth2, c2, hn, h1, h2, h3, h4, h5, h6, h7, h8⟩ := Cond.codeWith_spec (F1 _ hw rfl #[])
    exact ⟨mk, meth2, c2, hn, h1, h2, h3, h4, h6, h7, h5, h8⟩
set_option maxHeartbeats 1000000 in
theorem am_enter {sc : Nat × (Nat → Int32)} {k k2 pc : Nat} {ls vs rest : List Value} {m : am_Mem} {Q Q2 : am_Out → am_Mem → Prop} (hc : am_cd k2) (hpn : plainName (am_y k2).cls = true) (hf : am_fr k2 + 1 ≤ am_fr k) (hlo : am_cs rest + (am_ml k2 + 11) + am_lo k2 ≤ am_lo k) (hen : (am_en vs).length ≤ am_ml k2)
    (h2 : am_W sc k2 0 (am_ent vs (am_ml k2)) [] m Q2) (hret : ∀ v m', Q2 (.inl v) m' → am_W sc k (pc + 3) ls (v.toList ++ rest) m' Q) (hthr : ∀ a m', Q2 (.inr a) m' → am_TW sc k pc ls rest a m' Q)
    {p : Program} {l : Launch} {e : Env} {base b : Nat} {D : va_G} {cy : Nat → ClassId} {R : Room} {s : State} {mid : MethodId} {args : Array Value} {below : List Frame} {meth : Method} {c : Code} {H : Heap} {locs : List Loc} {cells slots : Nat} {la : Array Slot}
    (C : am_Ctx sc k m p l base b D cy R s mid meth c H locs cells slots) (hla : am_ls base b ls la (am_ml k)) {T : State} (hT : T.heap = H) (X : Stand p l e R s mid args below meth c T locs cells slots) {mk : MethodId} (hn : s.methodNamed? (am_y k2) = some mk) {ig : Instr} (hdg : decode (am_b k) pc = .ok (ig, 3)) :
    ∃ t, (∀ acts, Steps p.tables e below (doInvoke e (T.setTop (F0 mid pc la (rest.map (am_sh base b)))) acts mk (vs.map (am_sh base b)).toArray).1 t) ∧ am_End base b D cy R s below Q t := by
  obtain ⟨hexec, hl, hF, hFr, hRm, hRmm, ⟨hP, hz0, hO⟩, hS, hex⟩ := id C
  obtain ⟨mk', meth2, c2, hn', hm2, hc2, hb2, hml2, hr2, hlk2, htab2, hsig2⟩ := am_cd_at hc hF.1
  cases hn.symm.trans hn'
  have hRmm' := hRmm
  unfold am_Rm at hRmm'
  have hsz : (F0 mid pc la (rest.map (am_sh base b))).locals.size = c.maxLocals := by show la.size = _; rw [hla.1]; exact hFr.2.1.symm
  have hmT : T.vm.method? mk = some meth2 := by rw [X.warmed.alike.method?]; exact hm2
  have hpk : T.plainMethod mk := by
    intro kc hkc
    obtain ⟨k0, hk0, hnm⟩ := className_of_methodNamed hn
    obtain ⟨k1, hk1, he1⟩ := X.warmed.alike.2.2 _ _ hk0
    cases hk1.symm.trans hkc
    refine plain_of_name ?_
    rw [he1]
    show plainName k0.name = true
    rw [hnm]
    exact hpn
  obtain ⟨Y, hdo⟩ := X.into (g := F0 mid pc la (rest.map (am_sh base b))) rfl hsz (by rw [hFr.1]; exact hdg) (vs.map (am_sh base b)).toArray (R' := { frames := am_fr k2, cells := am_CM - am_n m, slots := am_SM - am_u m, locals := am_lo k2 }) hmT hc2 hlk2 hpk
    (Nat.le_trans hf hRm.1) (by show 2 * 0 + _ + (c2.maxLocals + 11) + am_lo k2 ≤ _; rw [am_cs_sh, hml2]; have := Nat.le_trans hlo hRm.2; omega) (by show cells + (am_CM - am_n m) ≤ _; omega) (by show slots + (am_SM - am_u m) ≤ _; omega)
  have hsh : (T.calling (F0 mid pc la (rest.map (am_sh base b))) mk (vs.map (am_sh base b)).toArray).heap = H := hT
  have hWs : s.WarmedH (T.calling (F0 mid pc la (rest.map (am_sh base b))) mk (vs.map (am_sh base b)).toArray).vm := X.warmed
  have hF2 : am_F base b sc D cy (T.calling (F0 mid pc la (rest.map (am_sh base b))) mk (vs.map (am_sh base b)).toArray) :=
    hF.moved hWs (by rw [hsh]; exact hS.1) (fun q h1 h2 => by rw [hsh]; exact hS.2.1 q h1 h2)
  have C2 : am_Ctx sc k2 m p l base b D cy { frames := am_fr k2, cells := am_CM - am_n m, slots := am_SM - am_u m, locals := am_lo k2 } (T.calling (F0 mid pc la (rest.map (am_sh base b))) mk (vs.map (am_sh base b)).toArray) mk meth2 c2 H [] 0 0 := by
    refine ⟨hexec, hl, hF2, ⟨hb2, hml2, hr2, hlk2, ?_, (name_of_methodNamed hn hm2).1, htab2⟩, ⟨Nat.le_refl _, Nat.le_refl _⟩, ?_, ⟨hP, hz0, hO⟩, ?_, ?_⟩
    · rw [hWs.alike.findClass]
      exact findClass_of_methodNamed hn
    · unfold am_Rm
      exact ⟨hRmm'.1, hRmm'.2.1, by show 0 + (am_CM - am_n m) ≤ am_CM - am_n m; omega, by show 0 + (am_SM - am_u m) ≤ am_SM - am_u m; omega⟩
    · rw [hsh]; exact va_S.rf
    · rw [hsh, hz0]; omega
  have hW2 := h2 p l e base b D cy _ _ mk (vs.map (am_sh base b)).toArray (.java (F0 mid pc la (rest.map (am_sh base b))) :: below) meth2 c2 H [] 0 0 _ C2 (am_ent_ls base b vs (am_ml k2) hen)
  rw [List.map_nil, ← lg_entry_eq, ← hml2] at hW2
  obtain ⟨t2, st2, o, out, m', L, k', n', h1, hend, hq, hoo, hrel, hrm, hwm, hsame, hva, hex'⟩ := hW2 _ (show ((T.setTop (F0 mid pc la (rest.map (am_sh base b)))).pushFrame (.java (entryFrame mk (vs.map (am_sh base b)).toArray c2.maxLocals))).heap = H from hT) Y
  have hst3 : ∀ acts, Steps p.tables e below (doInvoke e (T.setTop (F0 mid pc la (rest.map (am_sh base b)))) acts mk (vs.map (am_sh base b)).toArray).1 t2 := fun acts => by rw [hdo acts]; exact am_steps_up st2
  have hctx : ∀ T' : State, T'.heap = t2.heap → s.WarmedH T'.vm → am_Ctx sc k m' p l base b D cy R s mid meth c T'.heap (locs ++ L) (cells + k') (slots + n') := by
    intro T' hT' _
    unfold am_Rm at hrm
    rw [hsh] at hva hex'
    rw [hT']
    refine ⟨hexec, hl, hF, hFr, hRm, ?_, hrel, ⟨Nat.le_trans hS.1 hva.1, fun q g1 g2 => (hva.2.1 q (Nat.lt_of_lt_of_le g1 hS.1) g2).trans (hS.2.1 q g1 g2), fun z hz => ?_⟩, ?_⟩
    · unfold am_Rm
      have r3 : k' + (am_CM - am_n m') ≤ am_CM - am_n m := hrm.2.2.1
      have r4 : n' + (am_SM - am_u m') ≤ am_SM - am_u m := hrm.2.2.2
      refine ⟨hrm.1, hrm.2.1, by omega, by omega⟩
    · rcases List.mem_append.mp hz with h | h
      · exact hS.2.2 z h
      · exact hva.2.2 z h
    · omega
  cases out with
  | inl v =>
    have ho : o = .returned (v.map (am_sh base b)) := hoo
    subst ho
    obtain ⟨T', X', hW', hB', ht⟩ := X.outOf rfl (by rw [hFr.1]; exact hdg) hend hwm hsame
    have hhT : T'.heap = t2.heap := by rw [ht]; rfl
    obtain ⟨t3, st3, he3⟩ := hret v m' hq p l e base b D cy R s mid args below meth c T'.heap (locs ++ L) (cells + k') (slots + n') la (hctx T' hhT X'.warmed) hla T' rfl X'
    refine ⟨t3, fun acts => (hst3 acts).trans ?_, he3⟩
    rw [ht]
    have e5 : (v.toList ++ rest).map (am_sh base b) = (v.map (am_sh base b)).toList ++ rest.map (am_sh base b) := by cases v <;> rfl
    rw [e5] at st3
    exact st3
  | inr a =>
    obtain ⟨x, hax, ho⟩ := hoo
    subst ho
    obtain ⟨T', X', hW', hB', ht⟩ := X.outOfThrown rfl hend hwm hsame
    have hhT : T'.heap = t2.heap := by rw [ht]; rfl
    obtain ⟨t3, st3, he3⟩ := hthr a m' hq p l e base b D cy R s mid args below meth c T'.heap (locs ++ L) (cells + k') (slots + n') la x (hctx T' hhT X'.warmed) hla hax T' rfl X'
    refine ⟨t3, fun acts => (hst3 acts).trans ?_, he3⟩
    rw [ht]
    exact st3
end
section
/-! the three calls -/
/-- of method k2: its code, its name, n parameters (the receiver apart) -/
def am_mt (k2 n : Nat) : Prop := am_cd k2 ∧ plainName (am_y k2).cls = true ∧ ((am_y k2).cls ≠ "java/lang/invoke/MethodHandle" ∧ (am_y k2).cls ≠ "java/lang/invoke/VarHandle") ∧ ∀ sig, parseMethodDescriptor (am_y k2).desc = some sig → n = sig.parameters.length
def am_sS (k idx k2 : Nat) : Prop := Cond.methodLink (am_y k).cls idx (am_y k2) ∈ lw_tbl ∧ Cond.static (am_y k2) ∈ lw_tbl ∧ Cond.initialized (am_y k2).cls ∈ lw_tbl
def am_sV (k idx k2 ci : Nat) : Prop := Cond.methodLink (am_y k).cls idx (am_y k2) ∈ lw_tbl ∧ Cond.instanceMethod (am_y k2) ∈ lw_tbl ∧ Cond.selects (am_r ci).1 (am_y k2) (am_y k2) ∈ lw_tbl ∧ am_cl[ci]? = some (am_r ci) ∧ ci < 8
def am_sI (k idx k2 : Nat) : Prop := (Cond.methodLink (am_y k).cls idx (am_y k2) ∈ lw_tbl ∨ ∃ host, Cond.methodLinkNest (am_y k).cls idx (am_y k2) host ∈ lw_tbl) ∧ Cond.instanceMethod (am_y k2) ∈ lw_tbl ∧ (am_y k2).name = "<init>" ∧ Cond.code (am_y k2) (am_b k2) (am_ml k2) none ∈ lw_tbl
theorem am_callS {sc : Nat × (Nat → Int32)} {k k2 pc q idx n : Nat} {ls vs rest : List Value} {m : am_Mem} {Q Q2 : am_Out → am_Mem → Prop} (hd : am_at k pc (.invokestatic idx) 3 q) (hs : am_sS k idx k2) (hm : am_mt k2 n) (hn : vs.length = n) (hf : am_fr k2 + 1 ≤ am_fr k) (hlo : am_cs rest + (am_ml k2 + 11) + am_lo k2 ≤ am_lo k) (hen : (am_en vs).length ≤ am_ml k2)
    (h2 : am_W sc k2 0 (am_ent vs (am_ml k2)) [] m Q2) (hret : ∀ v m', Q2 (.inl v) m' → am_W sc k q ls (v.toList ++ rest) m' Q) (hthr : ∀ a m', Q2 (.inr a) m' → am_TW sc k pc ls rest a m' Q) : am_W sc k pc ls (vs.reverse ++ rest) m Q := by
  obtain ⟨hd, rfl⟩ := hd
  obtain ⟨w1, w2, w3⟩ := hs
  obtain ⟨hc, hpn, hy, hnp⟩ := hm
  intro p l e base b D cy R s mid args below meth c H locs cells slots la C hla T hT X
  obtain ⟨mk, meth2, c2, hnm, hm2, -, -, -, -, -, -, hsig⟩ := am_cd_at hc C.2.2.1.1
  obtain ⟨kP, hkP, -⟩ := className_of_methodNamed hnm
  have hstat := Cond.static_spec hnm hm2 (am_C.w C w2 rfl (args := args))
  have hini : kP.init = .initialized := Cond.initialized_spec (findClass_of_methodNamed hnm) hkP (am_C.w C w3 rfl (args := args))
  obtain ⟨vm1, X1, st1⟩ := X.invokestatic C.1 (am_C.own C) (am_C.w C w1 rfl) hnm hm2 hstat hkP hini hy (g := F0 mid pc la ((vs.reverse ++ rest).map (am_sh base b))) rfl (argsL := vs.map (am_sh base b)) (rest := rest.map (am_sh base b))
    (by rw [List.length_map, hn]; exact hnp _ hsig) (by show (vs.reverse ++ rest).map (am_sh base b) = _; rw [List.map_append, List.map_reverse]) (by rw [am_C.b C]; exact hd)
  obtain ⟨t, st2, he⟩ := am_enter hc hpn hf hlo hen h2 hret hthr C hla (T := T.setVm vm1) hT X1 hnm hd
  exact ⟨t, st1 t st2, he⟩
theorem am_callV {sc : Nat × (Nat → Int32)} {k k2 pc q idx n ci a : Nat} {ls vs rest : List Value} {m : am_Mem} {Q Q2 : am_Out → am_Mem → Prop} (hd : am_at k pc (.invokevirtual idx) 3 q) (hs : am_sV k idx k2 ci) (hm : am_mt k2 n) (hk : am_K m a = ci) (hn : vs.length = n) (hf : am_fr k2 + 1 ≤ am_fr k) (hlo : am_cs rest + (am_ml k2 + 11) + am_lo k2 ≤ am_lo k) (hen : (am_en (.ref a :: vs)).length ≤ am_ml k2)
    (h2 : am_W sc k2 0 (am_ent (.ref a :: vs) (am_ml k2)) [] m Q2) (hret : ∀ v m', Q2 (.inl v) m' → am_W sc k q ls (v.toList ++ rest) m' Q) (hthr : ∀ a m', Q2 (.inr a) m' → am_TW sc k pc ls rest a m' Q) : am_W sc k pc ls (vs.reverse ++ .ref a :: rest) m Q := by
  obtain ⟨hd, rfl⟩ := hd
  obtain ⟨w1, w2, w3, hcl2, hci⟩ := hs
  obtain ⟨hc, hpn, hy, hnp⟩ := hm
  intro p l e base b D cy R s mid args below meth c H locs cells slots la C hla T hT X
  obtain ⟨hP, hz0, hO⟩ := C.2.2.2.2.2.2.1
  obtain ⟨i, rfl, hi⟩ := am_K_ix hO hk (by omega)
  have he := am_ws_get (base := base) (cy := cy) hi
  rw [am_cell_o hk (by omega)] at he
  obtain ⟨cell, g1, g2, g3⟩ := va_recv C.2.2.1.2.2.2.2.1 hP hcl2 he
  obtain ⟨mk, meth2, c2, hnm, hm2, -, -, -, -, -, -, hsig⟩ := am_cd_at hc C.2.2.1.1
  obtain ⟨mk', methM, hnamed, hmethM, hstM, habM⟩ := Cond.instanceMethod_spec (am_C.w C w2 rfl (args := args))
  cases hnm.symm.trans hnamed
  cases hm2.symm.trans hmethM
  obtain ⟨c3, r3, m3, q1, q2, q3, q4, kP, hkP, hkPi⟩ := Cond.selects_spec (am_C.w C w3 rfl (args := args))
  cases g3.symm.trans q1
  cases (State.methodFound?_of_named hnamed hy).symm.trans q2
  cases hnamed.symm.trans q3
  have hselP : selectMethod e.platform s.vm cell.cls mk = .method mk := by rw [Launch.admits_selectMethod X.admits]; exact q4
  obtain ⟨vm1, X1, st1⟩ := X.invokevirtual C.1 (am_C.own C) (am_C.w C w1 rfl) hnamed hmethM hstM hkP hkPi hy (a := base + i) (cell := cell) (by rw [hT]; exact g1) (fun z h => by rw [h] at g2; cases g2) hselP hmethM habM hkP hkPi (g := F0 mid pc la ((vs.reverse ++ .ref (i + 1) :: rest).map (am_sh base b))) rfl (argsL := vs.map (am_sh base b)) (rest := rest.map (am_sh base b))
    (by rw [List.length_map, hn]; exact hnp _ hsig) (by show (vs.reverse ++ .ref (i + 1) :: rest).map (am_sh base b) = _; rw [List.map_append, List.map_reverse]; rfl) (by rw [am_C.b C]; exact hd)
  obtain ⟨t, st2, he⟩ := am_enter hc hpn hf hlo hen h2 hret hthr C hla (T := T.setVm vm1) hT X1 hnm hd
  exact ⟨t, st1 t st2, he⟩
theorem am_callI {sc : Nat × (Nat → Int32)} {k k2 pc q idx n a : Nat} {ls vs rest : List Value} {m : am_Mem} {Q Q2 : am_Out → am_Mem → Prop} (hd : am_at k pc (.invokespecial idx) 3 q) (hs : am_sI k idx k2) (hm : am_mt k2 n) (ha : ¬ a = 0) (hn : vs.length = n) (hf : am_fr k2 + 1 ≤ am_fr k) (hlo : am_cs rest + (am_ml k2 + 11) + am_lo k2 ≤ am_lo k) (hen : (am_en (.ref a :: vs)).length ≤ am_ml k2)
    (h2 : am_W sc k2 0 (am_ent (.ref a :: vs) (am_ml k2)) [] m Q2) (hret : ∀ v m', Q2 (.inl v) m' → am_W sc k q ls (v.toList ++ rest) m' Q) (hthr : ∀ a m', Q2 (.inr a) m' → am_TW sc k pc ls rest a m' Q) : am_W sc k pc ls (vs.reverse ++ .ref a :: rest) m Q := by
  obtain ⟨hd, rfl⟩ := hd
  obtain ⟨w1, w2, hy1, w4⟩ := hs
  obtain ⟨hc, hpn, hy, hnp⟩ := hm
  obtain ⟨i, rfl⟩ : ∃ i, a = i + 1 := ⟨a - 1, by omega⟩
  intro p l e base b D cy R s mid args below meth c H locs cells slots la C hla T hT X
  have hpl : e.platform.magicAccessors = ({} : Platform).magicAccessors := by rw [X.admits.platform]
  have hlen : ∀ sig, parseMethodDescriptor (am_y k2).desc = some sig → (vs.map (am_sh base b)).length = sig.parameters.length := fun sig h => by rw [List.length_map, hn]; exact hnp sig h
  have hstk : (F0 mid pc la ((vs.reverse ++ .ref (i + 1) :: rest).map (am_sh base b))).stack = (vs.map (am_sh base b)).reverse ++ .ref (base + i) :: rest.map (am_sh base b) := by
    show (vs.reverse ++ .ref (i + 1) :: rest).map (am_sh base b) = _
    rw [List.map_append, List.map_reverse]; rfl
  rcases w1 with w1 | ⟨host, w1⟩
  · obtain ⟨mk, methM, cM, kP, vm1, hnamed, -, -, -, -, -, -, -, hW1, st1⟩ := Steps.initColdArgs (e := e) (tb := p.tables) X.here C.1 X.warmed hpl (am_C.own C) hy1 hy (am_C.w C w1 rfl (args := args)) (am_C.w C w2 rfl) (am_C.w C w4 rfl) (f := F0 mid pc la ((vs.reverse ++ .ref (i + 1) :: rest).map (am_sh base b))) rfl hlen hstk (by rw [am_C.b C]; exact hd)
    obtain ⟨t, st2, he⟩ := am_enter hc hpn hf hlo hen h2 hret hthr C hla (T := T.setVm vm1) hT (X.noted hW1) hnamed hd
    exact ⟨t, st1 t st2, he⟩
  · have hlk : (Cond.methodLinkNest (am_y k).cls idx (am_y k2) host).before args s = true := va_Nw.use rfl (C.2.2.1.2.1 _ w1 rfl)
    obtain ⟨mk, methM, cM, kP, vm1, hnamed, -, -, -, -, -, -, -, hW1, st1⟩ := Steps.initColdArgsNest (e := e) (tb := p.tables) X.here C.1 X.warmed hpl (am_C.own C) hy1 hy hlk (am_C.w C w2 rfl) (am_C.w C w4 rfl) (f := F0 mid pc la ((vs.reverse ++ .ref (i + 1) :: rest).map (am_sh base b))) rfl hlen hstk (by rw [am_C.b C]; exact hd)
    obtain ⟨t, st2, he⟩ := am_enter hc hpn hf hlo hen h2 hret hthr C hla (T := T.setVm vm1) hT (X.noted hW1) hnamed hd
    exact ⟨t, st1 t st2, he⟩
end
section
theorem wd_376 : (Jvm.Cond.methodLink "ReadSide$Command" (1 : Nat) ({ cls := "java/lang/Object", name := "<init>", desc := "()V" } : Jvm.MethodName)) ∈ lw_tbl := List.mem_of_getElem? (i := 407) (by decide +kernel)
theorem wd_377 : (Jvm.Cond.fieldLink "ReadSide$Command" (7 : Nat) "ReadSide$Command" "kind" "I") ∈ lw_tbl := List.mem_of_getElem? (i := 408) (by decide +kernel)
theorem wd_380 : (Jvm.Cond.fieldLink "ReadSide$Command" (13 : Nat) "ReadSide$Command" "item" "I") ∈ lw_tbl := List.mem_of_getElem? (i := 411) (by decide +kernel)
theorem wd_383 : (Jvm.Cond.fieldLink "ReadSide$Command" (16 : Nat) "ReadSide$Command" "customer" "I") ∈ lw_tbl := List.mem_of_getElem? (i := 414) (by decide +kernel)
theorem wd_386 : (Jvm.Cond.fieldLink "ReadSide$Command" (19 : Nat) "ReadSide$Command" "amount" "I") ∈ lw_tbl := List.mem_of_getElem? (i := 417) (by decide +kernel)
theorem wd_389 : (Jvm.Cond.fieldLink "ReadSide$Command" (22 : Nat) "ReadSide$Command" "needs" "[I") ∈ lw_tbl := List.mem_of_getElem? (i := 420) (by decide +kernel)
theorem wd_31 : (Jvm.Cond.methodLink "ReadSide$Log" (3 : Nat) ({ cls := "java/lang/Object", name := "<init>", desc := "()V" } : Jvm.MethodName)) ∈ lw_tbl := List.mem_of_getElem? (i := 62) (by decide +kernel)
theorem wd_32 : (Jvm.Cond.classLink "ReadSide$Log" (9 : Nat) "ReadSide$Command") ∈ lw_tbl := List.mem_of_getElem? (i := 63) (by decide +kernel)
theorem wd_34 : (Jvm.Cond.fieldLink "ReadSide$Log" (11 : Nat) "ReadSide$Log" "commands" "[LReadSide$Command;") ∈ lw_tbl := List.mem_of_getElem? (i := 65) (by decide +kernel)
theorem wd_37 : (Jvm.Cond.fieldLink "ReadSide$Log" (17 : Nat) "ReadSide$Log" "trimmed" "I") ∈ lw_tbl := List.mem_of_getElem? (i := 68) (by decide +kernel)
theorem wd_35 : (Jvm.Cond.fieldLink "ReadSide$Log" (21 : Nat) "ReadSide$Log" "end" "I") ∈ lw_tbl := List.mem_of_getElem? (i := 66) (by decide +kernel)
theorem wd_546 : (Jvm.Cond.methodLink "ReadSide$Read" (3 : Nat) ({ cls := "java/lang/Object", name := "<init>", desc := "()V" } : Jvm.MethodName)) ∈ lw_tbl := List.mem_of_getElem? (i := 577) (by decide +kernel)
theorem wd_559 : (Jvm.Cond.fieldLink "ReadSide$Read" (9 : Nat) "ReadSide$Read" "state" "I") ∈ lw_tbl := List.mem_of_getElem? (i := 590) (by decide +kernel)
theorem wd_561 : (Jvm.Cond.fieldLink "ReadSide$Read" (15 : Nat) "ReadSide$Read" "replica" "I") ∈ lw_tbl := List.mem_of_getElem? (i := 592) (by decide +kernel)
theorem wd_563 : (Jvm.Cond.fieldLink "ReadSide$Read" (18 : Nat) "ReadSide$Read" "endTime" "I") ∈ lw_tbl := List.mem_of_getElem? (i := 594) (by decide +kernel)
theorem wd_547 : (Jvm.Cond.fieldLink "ReadSide$Read" (21 : Nat) "ReadSide$Read" "session" "I") ∈ lw_tbl := List.mem_of_getElem? (i := 578) (by decide +kernel)
theorem wd_557 : (Jvm.Cond.fieldLink "ReadSide$Read" (24 : Nat) "ReadSide$Read" "token" "J") ∈ lw_tbl := List.mem_of_getElem? (i := 588) (by decide +kernel)
theorem wd_549 : (Jvm.Cond.fieldLink "ReadSide$Read" (28 : Nat) "ReadSide$Read" "stale" "I") ∈ lw_tbl := List.mem_of_getElem? (i := 580) (by decide +kernel)
theorem wd_551 : (Jvm.Cond.fieldLink "ReadSide$Read" (31 : Nat) "ReadSide$Read" "deadline" "I") ∈ lw_tbl := List.mem_of_getElem? (i := 582) (by decide +kernel)
theorem wd_553 : (Jvm.Cond.fieldLink "ReadSide$Read" (34 : Nat) "ReadSide$Read" "kind" "I") ∈ lw_tbl := List.mem_of_getElem? (i := 584) (by decide +kernel)
theorem wd_555 : (Jvm.Cond.fieldLink "ReadSide$Read" (37 : Nat) "ReadSide$Read" "a" "I") ∈ lw_tbl := List.mem_of_getElem? (i := 586) (by decide +kernel)
theorem wd_52 : (Jvm.Cond.methodLink "ReadSide$Replica" (3 : Nat) ({ cls := "java/lang/Object", name := "<init>", desc := "()V" } : Jvm.MethodName)) ∈ lw_tbl := List.mem_of_getElem? (i := 83) (by decide +kernel)
theorem wd_53 : (Jvm.Cond.classLink "ReadSide$Replica" (9 : Nat) "ReadSide$State") ∈ lw_tbl := List.mem_of_getElem? (i := 84) (by decide +kernel)
theorem wd_55 : (Jvm.Cond.methodLink "ReadSide$Replica" (11 : Nat) ({ cls := "ReadSide$State", name := "<init>", desc := "()V" } : Jvm.MethodName)) ∈ lw_tbl := List.mem_of_getElem? (i := 86) (by decide +kernel)
theorem wd_56 : (Jvm.Cond.instanceMethod ({ cls := "ReadSide$State", name := "<init>", desc := "()V" } : Jvm.MethodName)) ∈ lw_tbl := List.mem_of_getElem? (i := 87) (by decide +kernel)
theorem wd_57 : (Jvm.Cond.code ({ cls := "ReadSide$State", name := "<init>", desc := "()V" } : Jvm.MethodName) prog_7_method_1_code (2 : Nat) (Option.none : Option Jvm.ClassFile.FieldType)) ∈ lw_tbl := List.mem_of_getElem? (i := 88) (by decide +kernel)
theorem wd_83 : (Jvm.Cond.fieldLink "ReadSide$Replica" (12 : Nat) "ReadSide$Replica" "state" "LReadSide$State;") ∈ lw_tbl := List.mem_of_getElem? (i := 114) (by decide +kernel)
theorem wd_85 : (Jvm.Cond.fieldLink "ReadSide$Replica" (18 : Nat) "ReadSide$Replica" "keptState" "LReadSide$State;") ∈ lw_tbl := List.mem_of_getElem? (i := 116) (by decide +kernel)
theorem wd_86 : (Jvm.Cond.fieldLink "ReadSide$Replica" (21 : Nat) "ReadSide$Replica" "at" "[I") ∈ lw_tbl := List.mem_of_getElem? (i := 117) (by decide +kernel)
theorem wd_88 : (Jvm.Cond.fieldLink "ReadSide$Replica" (25 : Nat) "ReadSide$Replica" "kept" "[I") ∈ lw_tbl := List.mem_of_getElem? (i := 119) (by decide +kernel)
theorem wd_92 : (Jvm.Cond.fieldLink "ReadSide$Replica" (28 : Nat) "ReadSide$Replica" "isUp" "Z") ∈ lw_tbl := List.mem_of_getElem? (i := 123) (by decide +kernel)
theorem wd_500 : (Jvm.Cond.methodLink "ReadSide$Replica" (32 : Nat) ({ cls := "ReadSide$State", name := "becomeLike", desc := "(LReadSide$State;)V" } : Jvm.MethodName)) ∈ lw_tbl := List.mem_of_getElem? (i := 531) (by decide +kernel)
theorem wd_501 : (Jvm.Cond.instanceMethod ({ cls := "ReadSide$State", name := "becomeLike", desc := "(LReadSide$State;)V" } : Jvm.MethodName)) ∈ lw_tbl := List.mem_of_getElem? (i := 532) (by decide +kernel)
theorem wd_502 : (Jvm.Cond.selects "ReadSide$State" ({ cls := "ReadSide$State", name := "becomeLike", desc := "(LReadSide$State;)V" } : Jvm.MethodName) ({ cls := "ReadSide$State", name := "becomeLike", desc := "(LReadSide$State;)V" } : Jvm.MethodName)) ∈ lw_tbl := List.mem_of_getElem? (i := 533) (by decide +kernel)
theorem wd_507 : (Jvm.Cond.methodLink "ReadSide$Replica" (36 : Nat) ({ cls := "java/lang/System", name := "arraycopy", desc := "(Ljava/lang/Object;ILjava/lang/Object;II)V" } : Jvm.MethodName)) ∈ lw_tbl := List.mem_of_getElem? (i := 538) (by decide +kernel)
theorem wd_115 : (Jvm.Cond.methodLink "ReadSide$Session" (3 : Nat) ({ cls := "java/lang/Object", name := "<init>", desc := "()V" } : Jvm.MethodName)) ∈ lw_tbl := List.mem_of_getElem? (i := 146) (by decide +kernel)
theorem wd_116 : (Jvm.Cond.fieldLink "ReadSide$Session" (9 : Nat) "ReadSide$Session" "wrote" "[I") ∈ lw_tbl := List.mem_of_getElem? (i := 147) (by decide +kernel)
theorem wd_118 : (Jvm.Cond.fieldLink "ReadSide$Session" (15 : Nat) "ReadSide$Session" "saw" "[I") ∈ lw_tbl := List.mem_of_getElem? (i := 149) (by decide +kernel)
theorem wd_120 : (Jvm.Cond.fieldLink "ReadSide$Session" (18 : Nat) "ReadSide$Session" "mode" "I") ∈ lw_tbl := List.mem_of_getElem? (i := 151) (by decide +kernel)
theorem wd_331 : (Jvm.Cond.methodLink "ReadSide$Session" (22 : Nat) ({ cls := "java/lang/Math", name := "max", desc := "(II)I" } : Jvm.MethodName)) ∈ lw_tbl := List.mem_of_getElem? (i := 362) (by decide +kernel)
theorem wd_58 : (Jvm.Cond.methodLink "ReadSide$State" (3 : Nat) ({ cls := "java/lang/Object", name := "<init>", desc := "()V" } : Jvm.MethodName)) ∈ lw_tbl := List.mem_of_getElem? (i := 89) (by decide +kernel)
theorem wd_59 : (Jvm.Cond.fieldLink "ReadSide$State" (9 : Nat) "ReadSide$State" "stock" "[I") ∈ lw_tbl := List.mem_of_getElem? (i := 90) (by decide +kernel)
theorem wd_60 : (Jvm.Cond.fieldLink "ReadSide$State" (15 : Nat) "ReadSide$State" "reserved" "[I") ∈ lw_tbl := List.mem_of_getElem? (i := 91) (by decide +kernel)
theorem wd_61 : (Jvm.Cond.fieldLink "ReadSide$State" (18 : Nat) "ReadSide$State" "sold" "[I") ∈ lw_tbl := List.mem_of_getElem? (i := 92) (by decide +kernel)
theorem wd_62 : (Jvm.Cond.fieldLink "ReadSide$State" (21 : Nat) "ReadSide$State" "price" "[I") ∈ lw_tbl := List.mem_of_getElem? (i := 93) (by decide +kernel)
theorem wd_63 : (Jvm.Cond.fieldLink "ReadSide$State" (24 : Nat) "ReadSide$State" "paid" "[J") ∈ lw_tbl := List.mem_of_getElem? (i := 94) (by decide +kernel)
theorem wd_64 : (Jvm.Cond.fieldLink "ReadSide$State" (28 : Nat) "ReadSide$State" "refusals" "[I") ∈ lw_tbl := List.mem_of_getElem? (i := 95) (by decide +kernel)
theorem wd_65 : (Jvm.Cond.fieldLink "ReadSide$State" (31 : Nat) "ReadSide$State" "holds" "[I") ∈ lw_tbl := List.mem_of_getElem? (i := 96) (by decide +kernel)
theorem wd_504 : (Jvm.Cond.methodLink "ReadSide$State" (34 : Nat) ({ cls := "java/lang/System", name := "arraycopy", desc := "(Ljava/lang/Object;ILjava/lang/Object;II)V" } : Jvm.MethodName)) ∈ lw_tbl := List.mem_of_getElem? (i := 535) (by decide +kernel)
theorem wd_381 : (Jvm.Cond.fieldLink "ReadSide$State" (40 : Nat) "ReadSide$Command" "item" "I") ∈ lw_tbl := List.mem_of_getElem? (i := 412) (by decide +kernel)
theorem wd_384 : (Jvm.Cond.fieldLink "ReadSide$State" (46 : Nat) "ReadSide$Command" "customer" "I") ∈ lw_tbl := List.mem_of_getElem? (i := 415) (by decide +kernel)
theorem wd_387 : (Jvm.Cond.fieldLink "ReadSide$State" (49 : Nat) "ReadSide$Command" "amount" "I") ∈ lw_tbl := List.mem_of_getElem? (i := 418) (by decide +kernel)
theorem wd_378 : (Jvm.Cond.fieldLink "ReadSide$State" (52 : Nat) "ReadSide$Command" "kind" "I") ∈ lw_tbl := List.mem_of_getElem? (i := 409) (by decide +kernel)
theorem wd_438 : (Jvm.Cond.methodLink "ReadSide$State" (55 : Nat) ({ cls := "ReadSide$State", name := "receive", desc := "(II)V" } : Jvm.MethodName)) ∈ lw_tbl := List.mem_of_getElem? (i := 469) (by decide +kernel)
theorem wd_439 : (Jvm.Cond.instanceMethod ({ cls := "ReadSide$State", name := "receive", desc := "(II)V" } : Jvm.MethodName)) ∈ lw_tbl := List.mem_of_getElem? (i := 470) (by decide +kernel)
theorem wd_440 : (Jvm.Cond.selects "ReadSide$State" ({ cls := "ReadSide$State", name := "receive", desc := "(II)V" } : Jvm.MethodName) ({ cls := "ReadSide$State", name := "receive", desc := "(II)V" } : Jvm.MethodName)) ∈ lw_tbl := List.mem_of_getElem? (i := 471) (by decide +kernel)
theorem wd_443 : (Jvm.Cond.methodLink "ReadSide$State" (59 : Nat) ({ cls := "ReadSide$State", name := "reserve", desc := "(III)V" } : Jvm.MethodName)) ∈ lw_tbl := List.mem_of_getElem? (i := 474) (by decide +kernel)
theorem wd_444 : (Jvm.Cond.instanceMethod ({ cls := "ReadSide$State", name := "reserve", desc := "(III)V" } : Jvm.MethodName)) ∈ lw_tbl := List.mem_of_getElem? (i := 475) (by decide +kernel)
theorem wd_445 : (Jvm.Cond.selects "ReadSide$State" ({ cls := "ReadSide$State", name := "reserve", desc := "(III)V" } : Jvm.MethodName) ({ cls := "ReadSide$State", name := "reserve", desc := "(III)V" } : Jvm.MethodName)) ∈ lw_tbl := List.mem_of_getElem? (i := 476) (by decide +kernel)
theorem wd_447 : (Jvm.Cond.methodLink "ReadSide$State" (63 : Nat) ({ cls := "ReadSide$State", name := "ship", desc := "(III)V" } : Jvm.MethodName)) ∈ lw_tbl := List.mem_of_getElem? (i := 478) (by decide +kernel)
theorem wd_448 : (Jvm.Cond.instanceMethod ({ cls := "ReadSide$State", name := "ship", desc := "(III)V" } : Jvm.MethodName)) ∈ lw_tbl := List.mem_of_getElem? (i := 479) (by decide +kernel)
theorem wd_449 : (Jvm.Cond.selects "ReadSide$State" ({ cls := "ReadSide$State", name := "ship", desc := "(III)V" } : Jvm.MethodName) ({ cls := "ReadSide$State", name := "ship", desc := "(III)V" } : Jvm.MethodName)) ∈ lw_tbl := List.mem_of_getElem? (i := 480) (by decide +kernel)
theorem wd_451 : (Jvm.Cond.methodLink "ReadSide$State" (66 : Nat) ({ cls := "ReadSide$State", name := "release", desc := "(III)V" } : Jvm.MethodName)) ∈ lw_tbl := List.mem_of_getElem? (i := 482) (by decide +kernel)
theorem wd_452 : (Jvm.Cond.instanceMethod ({ cls := "ReadSide$State", name := "release", desc := "(III)V" } : Jvm.MethodName)) ∈ lw_tbl := List.mem_of_getElem? (i := 483) (by decide +kernel)
theorem wd_453 : (Jvm.Cond.selects "ReadSide$State" ({ cls := "ReadSide$State", name := "release", desc := "(III)V" } : Jvm.MethodName) ({ cls := "ReadSide$State", name := "release", desc := "(III)V" } : Jvm.MethodName)) ∈ lw_tbl := List.mem_of_getElem? (i := 484) (by decide +kernel)
theorem wd_442 : (Jvm.Cond.constant "ReadSide$State" (69 : Nat) (100000 : Int32)) ∈ lw_tbl := List.mem_of_getElem? (i := 473) (by decide +kernel)
theorem wd_455 : (Jvm.Cond.methodLink "ReadSide$State" (70 : Nat) ({ cls := "java/lang/Math", name := "min", desc := "(II)I" } : Jvm.MethodName)) ∈ lw_tbl := List.mem_of_getElem? (i := 486) (by decide +kernel)
theorem wd_308 : (Jvm.Cond.methodLink "ReadSide$State" (76 : Nat) ({ cls := "ReadSide$State", name := "heldBy", desc := "(I)J" } : Jvm.MethodName)) ∈ lw_tbl := List.mem_of_getElem? (i := 339) (by decide +kernel)
theorem wd_309 : (Jvm.Cond.instanceMethod ({ cls := "ReadSide$State", name := "heldBy", desc := "(I)J" } : Jvm.MethodName)) ∈ lw_tbl := List.mem_of_getElem? (i := 340) (by decide +kernel)
theorem wd_310 : (Jvm.Cond.selects "ReadSide$State" ({ cls := "ReadSide$State", name := "heldBy", desc := "(I)J" } : Jvm.MethodName) ({ cls := "ReadSide$State", name := "heldBy", desc := "(I)J" } : Jvm.MethodName)) ∈ lw_tbl := List.mem_of_getElem? (i := 341) (by decide +kernel)
theorem wd_312 : (Jvm.Cond.methodLink "ReadSide$State" (80 : Nat) ({ cls := "ReadSide$State", name := "itemRanked", desc := "(I)I" } : Jvm.MethodName)) ∈ lw_tbl := List.mem_of_getElem? (i := 343) (by decide +kernel)
theorem wd_313 : (Jvm.Cond.instanceMethod ({ cls := "ReadSide$State", name := "itemRanked", desc := "(I)I" } : Jvm.MethodName)) ∈ lw_tbl := List.mem_of_getElem? (i := 344) (by decide +kernel)
theorem wd_314 : (Jvm.Cond.selects "ReadSide$State" ({ cls := "ReadSide$State", name := "itemRanked", desc := "(I)I" } : Jvm.MethodName) ({ cls := "ReadSide$State", name := "itemRanked", desc := "(I)I" } : Jvm.MethodName)) ∈ lw_tbl := List.mem_of_getElem? (i := 345) (by decide +kernel)
theorem wd_316 : (Jvm.Cond.methodLink "ReadSide$State" (84 : Nat) ({ cls := "ReadSide$State", name := "worth", desc := "(II)J" } : Jvm.MethodName)) ∈ lw_tbl := List.mem_of_getElem? (i := 347) (by decide +kernel)
theorem wd_317 : (Jvm.Cond.instanceMethod ({ cls := "ReadSide$State", name := "worth", desc := "(II)J" } : Jvm.MethodName)) ∈ lw_tbl := List.mem_of_getElem? (i := 348) (by decide +kernel)
theorem wd_318 : (Jvm.Cond.selects "ReadSide$State" ({ cls := "ReadSide$State", name := "worth", desc := "(II)J" } : Jvm.MethodName) ({ cls := "ReadSide$State", name := "worth", desc := "(II)J" } : Jvm.MethodName)) ∈ lw_tbl := List.mem_of_getElem? (i := 349) (by decide +kernel)
theorem wd_22 : (Jvm.Cond.methodLink "ReadSide" (1 : Nat) ({ cls := "java/lang/Object", name := "<init>", desc := "()V" } : Jvm.MethodName)) ∈ lw_tbl := List.mem_of_getElem? (i := 53) (by decide +kernel)
theorem wd_25 : (Jvm.Cond.classLink "ReadSide" (9 : Nat) "ReadSide$Log") ∈ lw_tbl := List.mem_of_getElem? (i := 56) (by decide +kernel)
theorem wd_134 : (Jvm.Cond.fieldLink "ReadSide" (11 : Nat) "ReadSide" "logs" "[LReadSide$Log;") ∈ lw_tbl := List.mem_of_getElem? (i := 165) (by decide +kernel)
theorem wd_28 : (Jvm.Cond.methodLinkNest "ReadSide" (15 : Nat) ({ cls := "ReadSide$Log", name := "<init>", desc := "()V" } : Jvm.MethodName) "ReadSide") ∈ lw_tbl := List.mem_of_getElem? (i := 59) (by decide +kernel)
theorem wd_29 : (Jvm.Cond.instanceMethod ({ cls := "ReadSide$Log", name := "<init>", desc := "()V" } : Jvm.MethodName)) ∈ lw_tbl := List.mem_of_getElem? (i := 60) (by decide +kernel)
theorem wd_30 : (Jvm.Cond.code ({ cls := "ReadSide$Log", name := "<init>", desc := "()V" } : Jvm.MethodName) prog_3_method_1_code (1 : Nat) (Option.none : Option Jvm.ClassFile.FieldType)) ∈ lw_tbl := List.mem_of_getElem? (i := 61) (by decide +kernel)
theorem wd_46 : (Jvm.Cond.classLink "ReadSide" (16 : Nat) "ReadSide$Replica") ∈ lw_tbl := List.mem_of_getElem? (i := 77) (by decide +kernel)
theorem wd_135 : (Jvm.Cond.fieldLink "ReadSide" (18 : Nat) "ReadSide" "replicas" "[LReadSide$Replica;") ∈ lw_tbl := List.mem_of_getElem? (i := 166) (by decide +kernel)
theorem wd_49 : (Jvm.Cond.methodLinkNest "ReadSide" (22 : Nat) ({ cls := "ReadSide$Replica", name := "<init>", desc := "()V" } : Jvm.MethodName) "ReadSide") ∈ lw_tbl := List.mem_of_getElem? (i := 80) (by decide +kernel)
theorem wd_50 : (Jvm.Cond.instanceMethod ({ cls := "ReadSide$Replica", name := "<init>", desc := "()V" } : Jvm.MethodName)) ∈ lw_tbl := List.mem_of_getElem? (i := 81) (by decide +kernel)
theorem wd_51 : (Jvm.Cond.code ({ cls := "ReadSide$Replica", name := "<init>", desc := "()V" } : Jvm.MethodName) prog_5_method_1_code (1 : Nat) (Option.none : Option Jvm.ClassFile.FieldType)) ∈ lw_tbl := List.mem_of_getElem? (i := 82) (by decide +kernel)
theorem wd_109 : (Jvm.Cond.classLink "ReadSide" (23 : Nat) "ReadSide$Session") ∈ lw_tbl := List.mem_of_getElem? (i := 140) (by decide +kernel)
theorem wd_136 : (Jvm.Cond.fieldLink "ReadSide" (25 : Nat) "ReadSide" "sessions" "[LReadSide$Session;") ∈ lw_tbl := List.mem_of_getElem? (i := 167) (by decide +kernel)
theorem wd_112 : (Jvm.Cond.methodLinkNest "ReadSide" (29 : Nat) ({ cls := "ReadSide$Session", name := "<init>", desc := "()V" } : Jvm.MethodName) "ReadSide") ∈ lw_tbl := List.mem_of_getElem? (i := 143) (by decide +kernel)
theorem wd_113 : (Jvm.Cond.instanceMethod ({ cls := "ReadSide$Session", name := "<init>", desc := "()V" } : Jvm.MethodName)) ∈ lw_tbl := List.mem_of_getElem? (i := 144) (by decide +kernel)
theorem wd_114 : (Jvm.Cond.code ({ cls := "ReadSide$Session", name := "<init>", desc := "()V" } : Jvm.MethodName) prog_6_method_1_code (1 : Nat) (Option.none : Option Jvm.ClassFile.FieldType)) ∈ lw_tbl := List.mem_of_getElem? (i := 145) (by decide +kernel)
theorem wd_132 : (Jvm.Cond.classLink "ReadSide" (30 : Nat) "ReadSide$Read") ∈ lw_tbl := List.mem_of_getElem? (i := 163) (by decide +kernel)
theorem wd_137 : (Jvm.Cond.fieldLink "ReadSide" (32 : Nat) "ReadSide" "reads" "[LReadSide$Read;") ∈ lw_tbl := List.mem_of_getElem? (i := 168) (by decide +kernel)
theorem wd_138 : (Jvm.Cond.fieldLink "ReadSide" (36 : Nat) "ReadSide" "waiting" "[LReadSide$Read;") ∈ lw_tbl := List.mem_of_getElem? (i := 169) (by decide +kernel)
theorem wd_192 : (Jvm.Cond.methodLink "ReadSide" (39 : Nat) ({ cls := "ReadSide", name := "needIndex", desc := "(II)V" } : Jvm.MethodName)) ∈ lw_tbl := List.mem_of_getElem? (i := 223) (by decide +kernel)
theorem wd_193 : (Jvm.Cond.static ({ cls := "ReadSide", name := "needIndex", desc := "(II)V" } : Jvm.MethodName)) ∈ lw_tbl := List.mem_of_getElem? (i := 224) (by decide +kernel)
theorem wd_1 : (Jvm.Cond.initialized "ReadSide") ∈ lw_tbl := List.mem_of_getElem? (i := 32) (by decide +kernel)
theorem wd_263 : (Jvm.Cond.methodLink "ReadSide" (43 : Nat) ({ cls := "ReadSide", name := "needNumber", desc := "(III)V" } : Jvm.MethodName)) ∈ lw_tbl := List.mem_of_getElem? (i := 294) (by decide +kernel)
theorem wd_264 : (Jvm.Cond.static ({ cls := "ReadSide", name := "needNumber", desc := "(III)V" } : Jvm.MethodName)) ∈ lw_tbl := List.mem_of_getElem? (i := 295) (by decide +kernel)
theorem wd_121 : (Jvm.Cond.fieldLink "ReadSide" (47 : Nat) "ReadSide$Session" "mode" "I") ∈ lw_tbl := List.mem_of_getElem? (i := 152) (by decide +kernel)
theorem wd_282 : (Jvm.Cond.methodLink "ReadSide" (51 : Nat) ({ cls := "ReadSide", name := "lookAtWaiting", desc := "(I)V" } : Jvm.MethodName)) ∈ lw_tbl := List.mem_of_getElem? (i := 313) (by decide +kernel)
theorem wd_284 : (Jvm.Cond.instanceMethod ({ cls := "ReadSide", name := "lookAtWaiting", desc := "(I)V" } : Jvm.MethodName)) ∈ lw_tbl := List.mem_of_getElem? (i := 315) (by decide +kernel)
theorem wp_2 : Jvm.Cond.selects "ReadSide" (⟨"ReadSide", "lookAtWaiting", "(I)V"⟩ : Jvm.MethodName) ⟨"ReadSide", "lookAtWaiting", "(I)V"⟩ ∈ lw_tbl := List.mem_of_getElem? (i := 2) (by decide +kernel)
theorem wd_122 : (Jvm.Cond.fieldLink "ReadSide" (55 : Nat) "ReadSide$Session" "home" "I") ∈ lw_tbl := List.mem_of_getElem? (i := 153) (by decide +kernel)
theorem wd_36 : (Jvm.Cond.fieldLink "ReadSide" (58 : Nat) "ReadSide$Log" "end" "I") ∈ lw_tbl := List.mem_of_getElem? (i := 67) (by decide +kernel)
theorem wd_351 : (Jvm.Cond.classLink "ReadSide" (61 : Nat) "java/lang/IllegalStateException") ∈ lw_tbl := List.mem_of_getElem? (i := 382) (by decide +kernel)
theorem wd_13 : (Jvm.Cond.initialized "java/lang/IllegalStateException") ∈ lw_tbl := List.mem_of_getElem? (i := 44) (by decide +kernel)
theorem wd_360 : (Jvm.Cond.stringRef "ReadSide" (63 : Nat) "the log is full") ∈ lw_tbl := List.mem_of_getElem? (i := 391) (by decide +kernel)
theorem wd_367 : (Jvm.Cond.methodLink "ReadSide" (68 : Nat) ({ cls := "ReadSide$Session", name := "needsNow", desc := "()[I" } : Jvm.MethodName)) ∈ lw_tbl := List.mem_of_getElem? (i := 398) (by decide +kernel)
theorem wd_368 : (Jvm.Cond.instanceMethod ({ cls := "ReadSide$Session", name := "needsNow", desc := "()[I" } : Jvm.MethodName)) ∈ lw_tbl := List.mem_of_getElem? (i := 399) (by decide +kernel)
theorem wd_369 : (Jvm.Cond.selects "ReadSide$Session" ({ cls := "ReadSide$Session", name := "needsNow", desc := "()[I" } : Jvm.MethodName) ({ cls := "ReadSide$Session", name := "needsNow", desc := "()[I" } : Jvm.MethodName)) ∈ lw_tbl := List.mem_of_getElem? (i := 400) (by decide +kernel)
theorem wd_371 : (Jvm.Cond.classLink "ReadSide" (72 : Nat) "ReadSide$Command") ∈ lw_tbl := List.mem_of_getElem? (i := 402) (by decide +kernel)
theorem wd_373 : (Jvm.Cond.methodLink "ReadSide" (74 : Nat) ({ cls := "ReadSide$Command", name := "<init>", desc := "(IIII[I)V" } : Jvm.MethodName)) ∈ lw_tbl := List.mem_of_getElem? (i := 404) (by decide +kernel)
theorem wd_374 : (Jvm.Cond.instanceMethod ({ cls := "ReadSide$Command", name := "<init>", desc := "(IIII[I)V" } : Jvm.MethodName)) ∈ lw_tbl := List.mem_of_getElem? (i := 405) (by decide +kernel)
theorem wd_375 : (Jvm.Cond.code ({ cls := "ReadSide$Command", name := "<init>", desc := "(IIII[I)V" } : Jvm.MethodName) prog_2_method_1_code (6 : Nat) (Option.none : Option Jvm.ClassFile.FieldType)) ∈ lw_tbl := List.mem_of_getElem? (i := 406) (by decide +kernel)
theorem wd_402 : (Jvm.Cond.methodLink "ReadSide" (77 : Nat) ({ cls := "ReadSide$Log", name := "append", desc := "(LReadSide$Command;)V" } : Jvm.MethodName)) ∈ lw_tbl := List.mem_of_getElem? (i := 433) (by decide +kernel)
theorem wd_403 : (Jvm.Cond.instanceMethod ({ cls := "ReadSide$Log", name := "append", desc := "(LReadSide$Command;)V" } : Jvm.MethodName)) ∈ lw_tbl := List.mem_of_getElem? (i := 434) (by decide +kernel)
theorem wd_404 : (Jvm.Cond.selects "ReadSide$Log" ({ cls := "ReadSide$Log", name := "append", desc := "(LReadSide$Command;)V" } : Jvm.MethodName) ({ cls := "ReadSide$Log", name := "append", desc := "(LReadSide$Command;)V" } : Jvm.MethodName)) ∈ lw_tbl := List.mem_of_getElem? (i := 435) (by decide +kernel)
theorem wd_117 : (Jvm.Cond.fieldLink "ReadSide" (81 : Nat) "ReadSide$Session" "wrote" "[I") ∈ lw_tbl := List.mem_of_getElem? (i := 148) (by decide +kernel)
theorem wd_406 : (Jvm.Cond.methodLink "ReadSide" (85 : Nat) ({ cls := "ReadSide", name := "withPosition", desc := "([III)[I" } : Jvm.MethodName)) ∈ lw_tbl := List.mem_of_getElem? (i := 437) (by decide +kernel)
theorem wd_407 : (Jvm.Cond.static ({ cls := "ReadSide", name := "withPosition", desc := "([III)[I" } : Jvm.MethodName)) ∈ lw_tbl := List.mem_of_getElem? (i := 438) (by decide +kernel)
theorem wd_320 : (Jvm.Cond.methodLink "ReadSide" (89 : Nat) ({ cls := "ReadSide", name := "tokenOf", desc := "([I)J" } : Jvm.MethodName)) ∈ lw_tbl := List.mem_of_getElem? (i := 351) (by decide +kernel)
theorem wd_321 : (Jvm.Cond.static ({ cls := "ReadSide", name := "tokenOf", desc := "([I)J" } : Jvm.MethodName)) ∈ lw_tbl := List.mem_of_getElem? (i := 352) (by decide +kernel)
theorem wd_93 : (Jvm.Cond.fieldLink "ReadSide" (93 : Nat) "ReadSide$Replica" "isUp" "Z") ∈ lw_tbl := List.mem_of_getElem? (i := 124) (by decide +kernel)
theorem wd_423 : (Jvm.Cond.methodLink "ReadSide" (97 : Nat) ({ cls := "ReadSide", name := "takeStep", desc := "(II)I" } : Jvm.MethodName)) ∈ lw_tbl := List.mem_of_getElem? (i := 454) (by decide +kernel)
theorem wd_425 : (Jvm.Cond.instanceMethod ({ cls := "ReadSide", name := "takeStep", desc := "(II)I" } : Jvm.MethodName)) ∈ lw_tbl := List.mem_of_getElem? (i := 456) (by decide +kernel)
theorem wp_7 : Jvm.Cond.selects "ReadSide" (⟨"ReadSide", "takeStep", "(II)I"⟩ : Jvm.MethodName) ⟨"ReadSide", "takeStep", "(II)I"⟩ ∈ lw_tbl := List.mem_of_getElem? (i := 7) (by decide +kernel)
theorem wd_90 : (Jvm.Cond.fieldLink "ReadSide" (101 : Nat) "ReadSide$Replica" "speed" "I") ∈ lw_tbl := List.mem_of_getElem? (i := 121) (by decide +kernel)
theorem wd_143 : (Jvm.Cond.fieldLink "ReadSide" (104 : Nat) "ReadSide" "time" "I") ∈ lw_tbl := List.mem_of_getElem? (i := 174) (by decide +kernel)
theorem wd_470 : (Jvm.Cond.methodLink "ReadSide" (107 : Nat) ({ cls := "ReadSide", name := "takeStepsOfTick", desc := "(I)I" } : Jvm.MethodName)) ∈ lw_tbl := List.mem_of_getElem? (i := 501) (by decide +kernel)
theorem wd_472 : (Jvm.Cond.instanceMethod ({ cls := "ReadSide", name := "takeStepsOfTick", desc := "(I)I" } : Jvm.MethodName)) ∈ lw_tbl := List.mem_of_getElem? (i := 503) (by decide +kernel)
theorem wp_8 : Jvm.Cond.selects "ReadSide" (⟨"ReadSide", "takeStepsOfTick", "(I)I"⟩ : Jvm.MethodName) ⟨"ReadSide", "takeStepsOfTick", "(I)I"⟩ ∈ lw_tbl := List.mem_of_getElem? (i := 8) (by decide +kernel)
theorem wd_474 : (Jvm.Cond.methodLink "ReadSide" (111 : Nat) ({ cls := "ReadSide", name := "failOverdue", desc := "()V" } : Jvm.MethodName)) ∈ lw_tbl := List.mem_of_getElem? (i := 505) (by decide +kernel)
theorem wd_476 : (Jvm.Cond.instanceMethod ({ cls := "ReadSide", name := "failOverdue", desc := "()V" } : Jvm.MethodName)) ∈ lw_tbl := List.mem_of_getElem? (i := 507) (by decide +kernel)
theorem wp_9 : Jvm.Cond.selects "ReadSide" (⟨"ReadSide", "failOverdue", "()V"⟩ : Jvm.MethodName) ⟨"ReadSide", "failOverdue", "()V"⟩ ∈ lw_tbl := List.mem_of_getElem? (i := 9) (by decide +kernel)
theorem wd_496 : (Jvm.Cond.methodLink "ReadSide" (114 : Nat) ({ cls := "ReadSide$Replica", name := "keep", desc := "()V" } : Jvm.MethodName)) ∈ lw_tbl := List.mem_of_getElem? (i := 527) (by decide +kernel)
theorem wd_497 : (Jvm.Cond.instanceMethod ({ cls := "ReadSide$Replica", name := "keep", desc := "()V" } : Jvm.MethodName)) ∈ lw_tbl := List.mem_of_getElem? (i := 528) (by decide +kernel)
theorem wd_498 : (Jvm.Cond.selects "ReadSide$Replica" ({ cls := "ReadSide$Replica", name := "keep", desc := "()V" } : Jvm.MethodName) ({ cls := "ReadSide$Replica", name := "keep", desc := "()V" } : Jvm.MethodName)) ∈ lw_tbl := List.mem_of_getElem? (i := 529) (by decide +kernel)
theorem wd_89 : (Jvm.Cond.fieldLink "ReadSide" (117 : Nat) "ReadSide$Replica" "kept" "[I") ∈ lw_tbl := List.mem_of_getElem? (i := 120) (by decide +kernel)
theorem wd_508 : (Jvm.Cond.methodLink "ReadSide" (120 : Nat) ({ cls := "ReadSide", name := "sum", desc := "([I)I" } : Jvm.MethodName)) ∈ lw_tbl := List.mem_of_getElem? (i := 539) (by decide +kernel)
theorem wd_509 : (Jvm.Cond.static ({ cls := "ReadSide", name := "sum", desc := "([I)I" } : Jvm.MethodName)) ∈ lw_tbl := List.mem_of_getElem? (i := 540) (by decide +kernel)
theorem wd_87 : (Jvm.Cond.fieldLink "ReadSide" (124 : Nat) "ReadSide$Replica" "at" "[I") ∈ lw_tbl := List.mem_of_getElem? (i := 118) (by decide +kernel)
theorem wd_518 : (Jvm.Cond.methodLink "ReadSide" (127 : Nat) ({ cls := "ReadSide$Replica", name := "comeAgain", desc := "()V" } : Jvm.MethodName)) ∈ lw_tbl := List.mem_of_getElem? (i := 549) (by decide +kernel)
theorem wd_519 : (Jvm.Cond.instanceMethod ({ cls := "ReadSide$Replica", name := "comeAgain", desc := "()V" } : Jvm.MethodName)) ∈ lw_tbl := List.mem_of_getElem? (i := 550) (by decide +kernel)
theorem wd_520 : (Jvm.Cond.selects "ReadSide$Replica" ({ cls := "ReadSide$Replica", name := "comeAgain", desc := "()V" } : Jvm.MethodName) ({ cls := "ReadSide$Replica", name := "comeAgain", desc := "()V" } : Jvm.MethodName)) ∈ lw_tbl := List.mem_of_getElem? (i := 551) (by decide +kernel)
theorem wd_169 : (Jvm.Cond.methodLink "ReadSide" (130 : Nat) ({ cls := "ReadSide", name := "leastKept", desc := "(I)I" } : Jvm.MethodName)) ∈ lw_tbl := List.mem_of_getElem? (i := 200) (by decide +kernel)
theorem wd_171 : (Jvm.Cond.instanceMethod ({ cls := "ReadSide", name := "leastKept", desc := "(I)I" } : Jvm.MethodName)) ∈ lw_tbl := List.mem_of_getElem? (i := 202) (by decide +kernel)
theorem wp_0 : Jvm.Cond.selects "ReadSide" (⟨"ReadSide", "leastKept", "(I)I"⟩ : Jvm.MethodName) ⟨"ReadSide", "leastKept", "(I)I"⟩ ∈ lw_tbl := List.mem_of_getElem? (i := 0) (by decide +kernel)
theorem wd_176 : (Jvm.Cond.methodLink "ReadSide" (133 : Nat) ({ cls := "ReadSide$Log", name := "dropTo", desc := "(I)I" } : Jvm.MethodName)) ∈ lw_tbl := List.mem_of_getElem? (i := 207) (by decide +kernel)
theorem wd_177 : (Jvm.Cond.instanceMethod ({ cls := "ReadSide$Log", name := "dropTo", desc := "(I)I" } : Jvm.MethodName)) ∈ lw_tbl := List.mem_of_getElem? (i := 208) (by decide +kernel)
theorem wd_178 : (Jvm.Cond.selects "ReadSide$Log" ({ cls := "ReadSide$Log", name := "dropTo", desc := "(I)I" } : Jvm.MethodName) ({ cls := "ReadSide$Log", name := "dropTo", desc := "(I)I" } : Jvm.MethodName)) ∈ lw_tbl := List.mem_of_getElem? (i := 209) (by decide +kernel)
theorem wd_529 : (Jvm.Cond.methodLink "ReadSide" (136 : Nat) ({ cls := "ReadSide", name := "needQuestion", desc := "(II)V" } : Jvm.MethodName)) ∈ lw_tbl := List.mem_of_getElem? (i := 560) (by decide +kernel)
theorem wd_531 : (Jvm.Cond.instanceMethod ({ cls := "ReadSide", name := "needQuestion", desc := "(II)V" } : Jvm.MethodName)) ∈ lw_tbl := List.mem_of_getElem? (i := 562) (by decide +kernel)
theorem wp_11 : Jvm.Cond.selects "ReadSide" (⟨"ReadSide", "needQuestion", "(II)V"⟩ : Jvm.MethodName) ⟨"ReadSide", "needQuestion", "(II)V"⟩ ∈ lw_tbl := List.mem_of_getElem? (i := 11) (by decide +kernel)
theorem wd_533 : (Jvm.Cond.methodLink "ReadSide" (139 : Nat) ({ cls := "ReadSide", name := "needToken", desc := "(J)V" } : Jvm.MethodName)) ∈ lw_tbl := List.mem_of_getElem? (i := 564) (by decide +kernel)
theorem wd_535 : (Jvm.Cond.instanceMethod ({ cls := "ReadSide", name := "needToken", desc := "(J)V" } : Jvm.MethodName)) ∈ lw_tbl := List.mem_of_getElem? (i := 566) (by decide +kernel)
theorem wp_12 : Jvm.Cond.selects "ReadSide" (⟨"ReadSide", "needToken", "(J)V"⟩ : Jvm.MethodName) ⟨"ReadSide", "needToken", "(J)V"⟩ ∈ lw_tbl := List.mem_of_getElem? (i := 12) (by decide +kernel)
theorem wd_139 : (Jvm.Cond.fieldLink "ReadSide" (143 : Nat) "ReadSide" "asked" "I") ∈ lw_tbl := List.mem_of_getElem? (i := 170) (by decide +kernel)
theorem wd_541 : (Jvm.Cond.stringRef "ReadSide" (146 : Nat) "there were as many reads as there may be") ∈ lw_tbl := List.mem_of_getElem? (i := 572) (by decide +kernel)
theorem wd_543 : (Jvm.Cond.methodLink "ReadSide" (148 : Nat) ({ cls := "ReadSide$Read", name := "<init>", desc := "(IJIIII)V" } : Jvm.MethodName)) ∈ lw_tbl := List.mem_of_getElem? (i := 574) (by decide +kernel)
theorem wd_544 : (Jvm.Cond.instanceMethod ({ cls := "ReadSide$Read", name := "<init>", desc := "(IJIIII)V" } : Jvm.MethodName)) ∈ lw_tbl := List.mem_of_getElem? (i := 575) (by decide +kernel)
theorem wd_545 : (Jvm.Cond.code ({ cls := "ReadSide$Read", name := "<init>", desc := "(IJIIII)V" } : Jvm.MethodName) prog_4_method_1_code (8 : Nat) (Option.none : Option Jvm.ClassFile.FieldType)) ∈ lw_tbl := List.mem_of_getElem? (i := 576) (by decide +kernel)
theorem wd_590 : (Jvm.Cond.methodLink "ReadSide" (151 : Nat) ({ cls := "ReadSide", name := "firstThatMay", desc := "(LReadSide$Read;)I" } : Jvm.MethodName)) ∈ lw_tbl := List.mem_of_getElem? (i := 621) (by decide +kernel)
theorem wd_592 : (Jvm.Cond.instanceMethod ({ cls := "ReadSide", name := "firstThatMay", desc := "(LReadSide$Read;)I" } : Jvm.MethodName)) ∈ lw_tbl := List.mem_of_getElem? (i := 623) (by decide +kernel)
theorem wp_13 : Jvm.Cond.selects "ReadSide" (⟨"ReadSide", "firstThatMay", "(LReadSide$Read;)I"⟩ : Jvm.MethodName) ⟨"ReadSide", "firstThatMay", "(LReadSide$Read;)I"⟩ ∈ lw_tbl := List.mem_of_getElem? (i := 13) (by decide +kernel)
theorem wd_140 : (Jvm.Cond.fieldLink "ReadSide" (155 : Nat) "ReadSide" "waitingNow" "I") ∈ lw_tbl := List.mem_of_getElem? (i := 171) (by decide +kernel)
theorem wd_594 : (Jvm.Cond.stringRef "ReadSide" (158 : Nat) "as many reads wait as may") ∈ lw_tbl := List.mem_of_getElem? (i := 625) (by decide +kernel)
theorem wd_478 : (Jvm.Cond.methodLink "ReadSide" (160 : Nat) ({ cls := "ReadSide", name := "fail", desc := "(LReadSide$Read;)V" } : Jvm.MethodName)) ∈ lw_tbl := List.mem_of_getElem? (i := 509) (by decide +kernel)
theorem wd_480 : (Jvm.Cond.instanceMethod ({ cls := "ReadSide", name := "fail", desc := "(LReadSide$Read;)V" } : Jvm.MethodName)) ∈ lw_tbl := List.mem_of_getElem? (i := 511) (by decide +kernel)
theorem wp_10 : Jvm.Cond.selects "ReadSide" (⟨"ReadSide", "fail", "(LReadSide$Read;)V"⟩ : Jvm.MethodName) ⟨"ReadSide", "fail", "(LReadSide$Read;)V"⟩ ∈ lw_tbl := List.mem_of_getElem? (i := 10) (by decide +kernel)
theorem wd_300 : (Jvm.Cond.methodLink "ReadSide" (164 : Nat) ({ cls := "ReadSide", name := "answer", desc := "(LReadSide$Read;I)V" } : Jvm.MethodName)) ∈ lw_tbl := List.mem_of_getElem? (i := 331) (by decide +kernel)
theorem wd_302 : (Jvm.Cond.instanceMethod ({ cls := "ReadSide", name := "answer", desc := "(LReadSide$Read;I)V" } : Jvm.MethodName)) ∈ lw_tbl := List.mem_of_getElem? (i := 333) (by decide +kernel)
theorem wp_5 : Jvm.Cond.selects "ReadSide" (⟨"ReadSide", "answer", "(LReadSide$Read;I)V"⟩ : Jvm.MethodName) ⟨"ReadSide", "answer", "(LReadSide$Read;I)V"⟩ ∈ lw_tbl := List.mem_of_getElem? (i := 5) (by decide +kernel)
theorem wd_560 : (Jvm.Cond.fieldLink "ReadSide" (168 : Nat) "ReadSide$Read" "state" "I") ∈ lw_tbl := List.mem_of_getElem? (i := 591) (by decide +kernel)
theorem wd_562 : (Jvm.Cond.fieldLink "ReadSide" (171 : Nat) "ReadSide$Read" "replica" "I") ∈ lw_tbl := List.mem_of_getElem? (i := 593) (by decide +kernel)
theorem wd_565 : (Jvm.Cond.fieldLink "ReadSide" (174 : Nat) "ReadSide$Read" "answer" "J") ∈ lw_tbl := List.mem_of_getElem? (i := 596) (by decide +kernel)
theorem wd_566 : (Jvm.Cond.fieldLink "ReadSide" (177 : Nat) "ReadSide$Read" "answeredAt" "J") ∈ lw_tbl := List.mem_of_getElem? (i := 597) (by decide +kernel)
theorem wd_564 : (Jvm.Cond.fieldLink "ReadSide" (180 : Nat) "ReadSide$Read" "endTime" "I") ∈ lw_tbl := List.mem_of_getElem? (i := 595) (by decide +kernel)
theorem wd_548 : (Jvm.Cond.fieldLink "ReadSide" (183 : Nat) "ReadSide$Read" "session" "I") ∈ lw_tbl := List.mem_of_getElem? (i := 579) (by decide +kernel)
theorem wd_195 : (Jvm.Cond.classLink "ReadSide" (186 : Nat) "java/lang/IndexOutOfBoundsException") ∈ lw_tbl := List.mem_of_getElem? (i := 226) (by decide +kernel)
theorem wd_10 : (Jvm.Cond.initialized "java/lang/IndexOutOfBoundsException") ∈ lw_tbl := List.mem_of_getElem? (i := 41) (by decide +kernel)
theorem wd_602 : (Jvm.Cond.stringRef "ReadSide" (188 : Nat) "no such what") ∈ lw_tbl := List.mem_of_getElem? (i := 633) (by decide +kernel)
theorem wd_84 : (Jvm.Cond.fieldLink "ReadSide" (191 : Nat) "ReadSide$Replica" "state" "LReadSide$State;") ∈ lw_tbl := List.mem_of_getElem? (i := 115) (by decide +kernel)
theorem wd_304 : (Jvm.Cond.methodLink "ReadSide" (194 : Nat) ({ cls := "ReadSide$State", name := "answerTo", desc := "(III)J" } : Jvm.MethodName)) ∈ lw_tbl := List.mem_of_getElem? (i := 335) (by decide +kernel)
theorem wd_305 : (Jvm.Cond.instanceMethod ({ cls := "ReadSide$State", name := "answerTo", desc := "(III)J" } : Jvm.MethodName)) ∈ lw_tbl := List.mem_of_getElem? (i := 336) (by decide +kernel)
theorem wd_306 : (Jvm.Cond.selects "ReadSide$State" ({ cls := "ReadSide$State", name := "answerTo", desc := "(III)J" } : Jvm.MethodName) ({ cls := "ReadSide$State", name := "answerTo", desc := "(III)J" } : Jvm.MethodName)) ∈ lw_tbl := List.mem_of_getElem? (i := 337) (by decide +kernel)
theorem wd_38 : (Jvm.Cond.fieldLink "ReadSide" (200 : Nat) "ReadSide$Log" "trimmed" "I") ∈ lw_tbl := List.mem_of_getElem? (i := 69) (by decide +kernel)
theorem wd_427 : (Jvm.Cond.methodLink "ReadSide" (203 : Nat) ({ cls := "ReadSide$Log", name := "commandAt", desc := "(I)LReadSide$Command;" } : Jvm.MethodName)) ∈ lw_tbl := List.mem_of_getElem? (i := 458) (by decide +kernel)
theorem wd_428 : (Jvm.Cond.instanceMethod ({ cls := "ReadSide$Log", name := "commandAt", desc := "(I)LReadSide$Command;" } : Jvm.MethodName)) ∈ lw_tbl := List.mem_of_getElem? (i := 459) (by decide +kernel)
theorem wd_429 : (Jvm.Cond.selects "ReadSide$Log" ({ cls := "ReadSide$Log", name := "commandAt", desc := "(I)LReadSide$Command;" } : Jvm.MethodName) ({ cls := "ReadSide$Log", name := "commandAt", desc := "(I)LReadSide$Command;" } : Jvm.MethodName)) ∈ lw_tbl := List.mem_of_getElem? (i := 460) (by decide +kernel)
theorem wd_638 : (Jvm.Cond.stringRef "ReadSide" (207 : Nat) "no such position, or no longer") ∈ lw_tbl := List.mem_of_getElem? (i := 669) (by decide +kernel)
theorem wd_379 : (Jvm.Cond.fieldLink "ReadSide" (209 : Nat) "ReadSide$Command" "kind" "I") ∈ lw_tbl := List.mem_of_getElem? (i := 410) (by decide +kernel)
theorem wd_382 : (Jvm.Cond.fieldLink "ReadSide" (212 : Nat) "ReadSide$Command" "item" "I") ∈ lw_tbl := List.mem_of_getElem? (i := 413) (by decide +kernel)
theorem wd_385 : (Jvm.Cond.fieldLink "ReadSide" (215 : Nat) "ReadSide$Command" "customer" "I") ∈ lw_tbl := List.mem_of_getElem? (i := 416) (by decide +kernel)
theorem wd_388 : (Jvm.Cond.fieldLink "ReadSide" (218 : Nat) "ReadSide$Command" "amount" "I") ∈ lw_tbl := List.mem_of_getElem? (i := 419) (by decide +kernel)
theorem wd_390 : (Jvm.Cond.fieldLink "ReadSide" (221 : Nat) "ReadSide$Command" "needs" "[I") ∈ lw_tbl := List.mem_of_getElem? (i := 421) (by decide +kernel)
theorem wd_119 : (Jvm.Cond.fieldLink "ReadSide" (224 : Nat) "ReadSide$Session" "saw" "[I") ∈ lw_tbl := List.mem_of_getElem? (i := 150) (by decide +kernel)
theorem wd_294 : (Jvm.Cond.methodLink "ReadSide" (227 : Nat) ({ cls := "ReadSide", name := "positionIn", desc := "(JI)I" } : Jvm.MethodName)) ∈ lw_tbl := List.mem_of_getElem? (i := 325) (by decide +kernel)
theorem wd_295 : (Jvm.Cond.static ({ cls := "ReadSide", name := "positionIn", desc := "(JI)I" } : Jvm.MethodName)) ∈ lw_tbl := List.mem_of_getElem? (i := 326) (by decide +kernel)
theorem wd_141 : (Jvm.Cond.fieldLink "ReadSide" (231 : Nat) "ReadSide" "answered" "I") ∈ lw_tbl := List.mem_of_getElem? (i := 172) (by decide +kernel)
theorem wd_142 : (Jvm.Cond.fieldLink "ReadSide" (234 : Nat) "ReadSide" "failed" "I") ∈ lw_tbl := List.mem_of_getElem? (i := 173) (by decide +kernel)
theorem wd_236 : (Jvm.Cond.stringRef "ReadSide" (237 : Nat) "there is no such one") ∈ lw_tbl := List.mem_of_getElem? (i := 267) (by decide +kernel)
theorem wd_266 : (Jvm.Cond.classLink "ReadSide" (239 : Nat) "java/lang/IllegalArgumentException") ∈ lw_tbl := List.mem_of_getElem? (i := 297) (by decide +kernel)
theorem wd_11 : (Jvm.Cond.initialized "java/lang/IllegalArgumentException") ∈ lw_tbl := List.mem_of_getElem? (i := 42) (by decide +kernel)
theorem wd_275 : (Jvm.Cond.stringRef "ReadSide" (241 : Nat) "a number is not as told") ∈ lw_tbl := List.mem_of_getElem? (i := 306) (by decide +kernel)
theorem wd_537 : (Jvm.Cond.constantLong "ReadSide" (244 : Nat) (134217728 : Int64)) ∈ lw_tbl := List.mem_of_getElem? (i := 568) (by decide +kernel)
theorem wd_538 : (Jvm.Cond.constantLong "ReadSide" (246 : Nat) (1048575 : Int64)) ∈ lw_tbl := List.mem_of_getElem? (i := 569) (by decide +kernel)
theorem wd_323 : (Jvm.Cond.methodLink "ReadSide" (248 : Nat) ({ cls := "ReadSide", name := "checkOf", desc := "(J)J" } : Jvm.MethodName)) ∈ lw_tbl := List.mem_of_getElem? (i := 354) (by decide +kernel)
theorem wd_324 : (Jvm.Cond.static ({ cls := "ReadSide", name := "checkOf", desc := "(J)J" } : Jvm.MethodName)) ∈ lw_tbl := List.mem_of_getElem? (i := 355) (by decide +kernel)
theorem wd_539 : (Jvm.Cond.stringRef "ReadSide" (252 : Nat) "the number is no token") ∈ lw_tbl := List.mem_of_getElem? (i := 570) (by decide +kernel)
theorem wd_540 : (Jvm.Cond.stringRef "ReadSide" (254 : Nat) "the token is beyond the logs") ∈ lw_tbl := List.mem_of_getElem? (i := 571) (by decide +kernel)
theorem wd_326 : (Jvm.Cond.constantLong "ReadSide" (256 : Nat) (-7046029254386353131 : Int64)) ∈ lw_tbl := List.mem_of_getElem? (i := 357) (by decide +kernel)
theorem wd_409 : (Jvm.Cond.methodLink "ReadSide" (258 : Nat) ({ cls := "[I", name := "clone", desc := "()Ljava/lang/Object;" } : Jvm.MethodName)) ∈ lw_tbl := List.mem_of_getElem? (i := 440) (by decide +kernel)
theorem wd_415 : (Jvm.Cond.classLink "ReadSide" (259 : Nat) "[I") ∈ lw_tbl := List.mem_of_getElem? (i := 446) (by decide +kernel)
theorem wd_297 : (Jvm.Cond.methodLink "ReadSide" (263 : Nat) ({ cls := "java/lang/Math", name := "max", desc := "(II)I" } : Jvm.MethodName)) ∈ lw_tbl := List.mem_of_getElem? (i := 328) (by decide +kernel)
theorem wd_173 : (Jvm.Cond.methodLink "ReadSide" (268 : Nat) ({ cls := "java/lang/Math", name := "min", desc := "(II)I" } : Jvm.MethodName)) ∈ lw_tbl := List.mem_of_getElem? (i := 204) (by decide +kernel)
theorem wd_431 : (Jvm.Cond.methodLink "ReadSide" (271 : Nat) ({ cls := "ReadSide", name := "covers", desc := "([I[I)Z" } : Jvm.MethodName)) ∈ lw_tbl := List.mem_of_getElem? (i := 462) (by decide +kernel)
theorem wd_432 : (Jvm.Cond.static ({ cls := "ReadSide", name := "covers", desc := "([I[I)Z" } : Jvm.MethodName)) ∈ lw_tbl := List.mem_of_getElem? (i := 463) (by decide +kernel)
theorem wd_434 : (Jvm.Cond.methodLink "ReadSide" (275 : Nat) ({ cls := "ReadSide$State", name := "take", desc := "(LReadSide$Command;)V" } : Jvm.MethodName)) ∈ lw_tbl := List.mem_of_getElem? (i := 465) (by decide +kernel)
theorem wd_435 : (Jvm.Cond.instanceMethod ({ cls := "ReadSide$State", name := "take", desc := "(LReadSide$Command;)V" } : Jvm.MethodName)) ∈ lw_tbl := List.mem_of_getElem? (i := 466) (by decide +kernel)
theorem wd_436 : (Jvm.Cond.selects "ReadSide$State" ({ cls := "ReadSide$State", name := "take", desc := "(LReadSide$Command;)V" } : Jvm.MethodName) ({ cls := "ReadSide$State", name := "take", desc := "(LReadSide$Command;)V" } : Jvm.MethodName)) ∈ lw_tbl := List.mem_of_getElem? (i := 467) (by decide +kernel)
theorem wd_91 : (Jvm.Cond.fieldLink "ReadSide" (278 : Nat) "ReadSide$Replica" "nextPartition" "I") ∈ lw_tbl := List.mem_of_getElem? (i := 122) (by decide +kernel)
theorem wd_286 : (Jvm.Cond.methodLink "ReadSide" (281 : Nat) ({ cls := "ReadSide", name := "mayAnswer", desc := "(LReadSide$Replica;LReadSide$Read;)Z" } : Jvm.MethodName)) ∈ lw_tbl := List.mem_of_getElem? (i := 317) (by decide +kernel)
theorem wd_288 : (Jvm.Cond.instanceMethod ({ cls := "ReadSide", name := "mayAnswer", desc := "(LReadSide$Replica;LReadSide$Read;)Z" } : Jvm.MethodName)) ∈ lw_tbl := List.mem_of_getElem? (i := 319) (by decide +kernel)
theorem wp_3 : Jvm.Cond.selects "ReadSide" (⟨"ReadSide", "mayAnswer", "(LReadSide$Replica;LReadSide$Read;)Z"⟩ : Jvm.MethodName) ⟨"ReadSide", "mayAnswer", "(LReadSide$Replica;LReadSide$Read;)Z"⟩ ∈ lw_tbl := List.mem_of_getElem? (i := 3) (by decide +kernel)
theorem wd_290 : (Jvm.Cond.methodLink "ReadSide" (285 : Nat) ({ cls := "ReadSide", name := "leastFor", desc := "(LReadSide$Read;I)I" } : Jvm.MethodName)) ∈ lw_tbl := List.mem_of_getElem? (i := 321) (by decide +kernel)
theorem wd_292 : (Jvm.Cond.instanceMethod ({ cls := "ReadSide", name := "leastFor", desc := "(LReadSide$Read;I)I" } : Jvm.MethodName)) ∈ lw_tbl := List.mem_of_getElem? (i := 323) (by decide +kernel)
theorem wp_4 : Jvm.Cond.selects "ReadSide" (⟨"ReadSide", "leastFor", "(LReadSide$Read;I)I"⟩ : Jvm.MethodName) ⟨"ReadSide", "leastFor", "(LReadSide$Read;I)I"⟩ ∈ lw_tbl := List.mem_of_getElem? (i := 4) (by decide +kernel)
theorem wd_558 : (Jvm.Cond.fieldLink "ReadSide" (289 : Nat) "ReadSide$Read" "token" "J") ∈ lw_tbl := List.mem_of_getElem? (i := 589) (by decide +kernel)
theorem wd_550 : (Jvm.Cond.fieldLink "ReadSide" (292 : Nat) "ReadSide$Read" "stale" "I") ∈ lw_tbl := List.mem_of_getElem? (i := 581) (by decide +kernel)
theorem wd_332 : (Jvm.Cond.methodLink "ReadSide" (295 : Nat) ({ cls := "ReadSide", name := "forgetEnded", desc := "()V" } : Jvm.MethodName)) ∈ lw_tbl := List.mem_of_getElem? (i := 363) (by decide +kernel)
theorem wd_334 : (Jvm.Cond.instanceMethod ({ cls := "ReadSide", name := "forgetEnded", desc := "()V" } : Jvm.MethodName)) ∈ lw_tbl := List.mem_of_getElem? (i := 365) (by decide +kernel)
theorem wp_6 : Jvm.Cond.selects "ReadSide" (⟨"ReadSide", "forgetEnded", "()V"⟩ : Jvm.MethodName) ⟨"ReadSide", "forgetEnded", "()V"⟩ ∈ lw_tbl := List.mem_of_getElem? (i := 6) (by decide +kernel)
theorem wd_552 : (Jvm.Cond.fieldLink "ReadSide" (298 : Nat) "ReadSide$Read" "deadline" "I") ∈ lw_tbl := List.mem_of_getElem? (i := 583) (by decide +kernel)
theorem wd_554 : (Jvm.Cond.fieldLink "ReadSide" (301 : Nat) "ReadSide$Read" "kind" "I") ∈ lw_tbl := List.mem_of_getElem? (i := 585) (by decide +kernel)
theorem wd_556 : (Jvm.Cond.fieldLink "ReadSide" (302 : Nat) "ReadSide$Read" "a" "I") ∈ lw_tbl := List.mem_of_getElem? (i := 587) (by decide +kernel)
theorem wd_327 : (Jvm.Cond.methodLink "ReadSide" (305 : Nat) ({ cls := "ReadSide$Session", name := "see", desc := "([I)V" } : Jvm.MethodName)) ∈ lw_tbl := List.mem_of_getElem? (i := 358) (by decide +kernel)
theorem wd_328 : (Jvm.Cond.instanceMethod ({ cls := "ReadSide$Session", name := "see", desc := "([I)V" } : Jvm.MethodName)) ∈ lw_tbl := List.mem_of_getElem? (i := 359) (by decide +kernel)
theorem wd_329 : (Jvm.Cond.selects "ReadSide$Session" ({ cls := "ReadSide$Session", name := "see", desc := "([I)V" } : Jvm.MethodName) ({ cls := "ReadSide$Session", name := "see", desc := "([I)V" } : Jvm.MethodName)) ∈ lw_tbl := List.mem_of_getElem? (i := 360) (by decide +kernel)
theorem wd_665 : (Jvm.Cond.methodLink "ReadSideModel" (1 : Nat) ({ cls := "java/lang/Object", name := "<init>", desc := "()V" } : Jvm.MethodName)) ∈ lw_tbl := List.mem_of_getElem? (i := 696) (by decide +kernel)
theorem wd_670 : (Jvm.Cond.fieldLink "ReadSideModel" (7 : Nat) "ReadSideModel" "ends" "[I") ∈ lw_tbl := List.mem_of_getElem? (i := 701) (by decide +kernel)
theorem wd_671 : (Jvm.Cond.fieldLink "ReadSideModel" (13 : Nat) "ReadSideModel" "trimmed" "[I") ∈ lw_tbl := List.mem_of_getElem? (i := 702) (by decide +kernel)
theorem wd_672 : (Jvm.Cond.fieldLink "ReadSideModel" (16 : Nat) "ReadSideModel" "kinds" "[I") ∈ lw_tbl := List.mem_of_getElem? (i := 703) (by decide +kernel)
theorem wd_673 : (Jvm.Cond.fieldLink "ReadSideModel" (19 : Nat) "ReadSideModel" "items" "[I") ∈ lw_tbl := List.mem_of_getElem? (i := 704) (by decide +kernel)
theorem wd_674 : (Jvm.Cond.fieldLink "ReadSideModel" (22 : Nat) "ReadSideModel" "customers" "[I") ∈ lw_tbl := List.mem_of_getElem? (i := 705) (by decide +kernel)
theorem wd_675 : (Jvm.Cond.fieldLink "ReadSideModel" (25 : Nat) "ReadSideModel" "amounts" "[I") ∈ lw_tbl := List.mem_of_getElem? (i := 706) (by decide +kernel)
theorem wd_676 : (Jvm.Cond.fieldLink "ReadSideModel" (28 : Nat) "ReadSideModel" "needs" "[I") ∈ lw_tbl := List.mem_of_getElem? (i := 707) (by decide +kernel)
theorem wd_677 : (Jvm.Cond.fieldLink "ReadSideModel" (31 : Nat) "ReadSideModel" "stock" "[I") ∈ lw_tbl := List.mem_of_getElem? (i := 708) (by decide +kernel)
theorem wd_678 : (Jvm.Cond.fieldLink "ReadSideModel" (34 : Nat) "ReadSideModel" "reserved" "[I") ∈ lw_tbl := List.mem_of_getElem? (i := 709) (by decide +kernel)
theorem wd_679 : (Jvm.Cond.fieldLink "ReadSideModel" (37 : Nat) "ReadSideModel" "sold" "[I") ∈ lw_tbl := List.mem_of_getElem? (i := 710) (by decide +kernel)
theorem wd_680 : (Jvm.Cond.fieldLink "ReadSideModel" (40 : Nat) "ReadSideModel" "price" "[I") ∈ lw_tbl := List.mem_of_getElem? (i := 711) (by decide +kernel)
theorem wd_681 : (Jvm.Cond.fieldLink "ReadSideModel" (43 : Nat) "ReadSideModel" "holds" "[I") ∈ lw_tbl := List.mem_of_getElem? (i := 712) (by decide +kernel)
theorem wd_682 : (Jvm.Cond.fieldLink "ReadSideModel" (46 : Nat) "ReadSideModel" "paid" "[J") ∈ lw_tbl := List.mem_of_getElem? (i := 713) (by decide +kernel)
theorem wd_683 : (Jvm.Cond.fieldLink "ReadSideModel" (50 : Nat) "ReadSideModel" "refusals" "[I") ∈ lw_tbl := List.mem_of_getElem? (i := 714) (by decide +kernel)
theorem wd_684 : (Jvm.Cond.fieldLink "ReadSideModel" (53 : Nat) "ReadSideModel" "at" "[I") ∈ lw_tbl := List.mem_of_getElem? (i := 715) (by decide +kernel)
theorem wd_685 : (Jvm.Cond.fieldLink "ReadSideModel" (56 : Nat) "ReadSideModel" "speeds" "[I") ∈ lw_tbl := List.mem_of_getElem? (i := 716) (by decide +kernel)
theorem wd_686 : (Jvm.Cond.fieldLink "ReadSideModel" (59 : Nat) "ReadSideModel" "next" "[I") ∈ lw_tbl := List.mem_of_getElem? (i := 717) (by decide +kernel)
theorem wd_687 : (Jvm.Cond.fieldLink "ReadSideModel" (62 : Nat) "ReadSideModel" "up" "[Z") ∈ lw_tbl := List.mem_of_getElem? (i := 718) (by decide +kernel)
theorem wd_688 : (Jvm.Cond.fieldLink "ReadSideModel" (66 : Nat) "ReadSideModel" "modes" "[I") ∈ lw_tbl := List.mem_of_getElem? (i := 719) (by decide +kernel)
theorem wd_689 : (Jvm.Cond.fieldLink "ReadSideModel" (69 : Nat) "ReadSideModel" "homes" "[I") ∈ lw_tbl := List.mem_of_getElem? (i := 720) (by decide +kernel)
theorem wd_690 : (Jvm.Cond.fieldLink "ReadSideModel" (72 : Nat) "ReadSideModel" "wrote" "[I") ∈ lw_tbl := List.mem_of_getElem? (i := 721) (by decide +kernel)
theorem wd_691 : (Jvm.Cond.fieldLink "ReadSideModel" (75 : Nat) "ReadSideModel" "saw" "[I") ∈ lw_tbl := List.mem_of_getElem? (i := 722) (by decide +kernel)
theorem wd_693 : (Jvm.Cond.fieldLink "ReadSideModel" (78 : Nat) "ReadSideModel" "state" "[I") ∈ lw_tbl := List.mem_of_getElem? (i := 724) (by decide +kernel)
theorem wd_694 : (Jvm.Cond.fieldLink "ReadSideModel" (81 : Nat) "ReadSideModel" "session" "[I") ∈ lw_tbl := List.mem_of_getElem? (i := 725) (by decide +kernel)
theorem wd_695 : (Jvm.Cond.fieldLink "ReadSideModel" (84 : Nat) "ReadSideModel" "needed" "[I") ∈ lw_tbl := List.mem_of_getElem? (i := 726) (by decide +kernel)
theorem wd_696 : (Jvm.Cond.fieldLink "ReadSideModel" (87 : Nat) "ReadSideModel" "stale" "[I") ∈ lw_tbl := List.mem_of_getElem? (i := 727) (by decide +kernel)
theorem wd_697 : (Jvm.Cond.fieldLink "ReadSideModel" (90 : Nat) "ReadSideModel" "patience" "[I") ∈ lw_tbl := List.mem_of_getElem? (i := 728) (by decide +kernel)
theorem wd_698 : (Jvm.Cond.fieldLink "ReadSideModel" (93 : Nat) "ReadSideModel" "asked" "[I") ∈ lw_tbl := List.mem_of_getElem? (i := 729) (by decide +kernel)
theorem wd_699 : (Jvm.Cond.fieldLink "ReadSideModel" (96 : Nat) "ReadSideModel" "question" "[I") ∈ lw_tbl := List.mem_of_getElem? (i := 730) (by decide +kernel)
theorem wd_700 : (Jvm.Cond.fieldLink "ReadSideModel" (99 : Nat) "ReadSideModel" "about" "[I") ∈ lw_tbl := List.mem_of_getElem? (i := 731) (by decide +kernel)
theorem wd_701 : (Jvm.Cond.fieldLink "ReadSideModel" (102 : Nat) "ReadSideModel" "by" "[I") ∈ lw_tbl := List.mem_of_getElem? (i := 732) (by decide +kernel)
theorem wd_702 : (Jvm.Cond.fieldLink "ReadSideModel" (105 : Nat) "ReadSideModel" "answer" "[J") ∈ lw_tbl := List.mem_of_getElem? (i := 733) (by decide +kernel)
theorem wd_703 : (Jvm.Cond.fieldLink "ReadSideModel" (108 : Nat) "ReadSideModel" "vector" "[J") ∈ lw_tbl := List.mem_of_getElem? (i := 734) (by decide +kernel)
theorem wd_704 : (Jvm.Cond.fieldLink "ReadSideModel" (111 : Nat) "ReadSideModel" "ended" "[I") ∈ lw_tbl := List.mem_of_getElem? (i := 735) (by decide +kernel)
theorem wd_666 : (Jvm.Cond.fieldLink "ReadSideModel" (114 : Nat) "ReadSideModel" "parts" "I") ∈ lw_tbl := List.mem_of_getElem? (i := 697) (by decide +kernel)
theorem wd_667 : (Jvm.Cond.fieldLink "ReadSideModel" (118 : Nat) "ReadSideModel" "replicas" "I") ∈ lw_tbl := List.mem_of_getElem? (i := 698) (by decide +kernel)
theorem wd_668 : (Jvm.Cond.fieldLink "ReadSideModel" (121 : Nat) "ReadSideModel" "thrown" "I") ∈ lw_tbl := List.mem_of_getElem? (i := 699) (by decide +kernel)
theorem wd_834 : (Jvm.Cond.constantLong "ReadSideModel" (124 : Nat) (-7046029254386353131 : Int64)) ∈ lw_tbl := List.mem_of_getElem? (i := 865) (by decide +kernel)
theorem wd_828 : (Jvm.Cond.constantLong "ReadSideModel" (126 : Nat) (512 : Int64)) ∈ lw_tbl := List.mem_of_getElem? (i := 859) (by decide +kernel)
theorem wd_829 : (Jvm.Cond.constantLong "ReadSideModel" (128 : Nat) (262144 : Int64)) ∈ lw_tbl := List.mem_of_getElem? (i := 860) (by decide +kernel)
theorem wd_830 : (Jvm.Cond.constantLong "ReadSideModel" (130 : Nat) (1048576 : Int64)) ∈ lw_tbl := List.mem_of_getElem? (i := 861) (by decide +kernel)
theorem wd_831 : (Jvm.Cond.methodLink "ReadSideModel" (132 : Nat) ({ cls := "ReadSideModel", name := "check", desc := "(J)J" } : Jvm.MethodName)) ∈ lw_tbl := List.mem_of_getElem? (i := 862) (by decide +kernel)
theorem wd_832 : (Jvm.Cond.static ({ cls := "ReadSideModel", name := "check", desc := "(J)J" } : Jvm.MethodName)) ∈ lw_tbl := List.mem_of_getElem? (i := 863) (by decide +kernel)
theorem wd_6 : (Jvm.Cond.initialized "ReadSideModel") ∈ lw_tbl := List.mem_of_getElem? (i := 37) (by decide +kernel)
theorem wd_929 : (Jvm.Cond.constantLong "ReadSideModel" (136 : Nat) (511 : Int64)) ∈ lw_tbl := List.mem_of_getElem? (i := 960) (by decide +kernel)
theorem wd_924 : (Jvm.Cond.constantLong "ReadSideModel" (138 : Nat) (134217728 : Int64)) ∈ lw_tbl := List.mem_of_getElem? (i := 955) (by decide +kernel)
theorem wd_925 : (Jvm.Cond.constantLong "ReadSideModel" (140 : Nat) (1048575 : Int64)) ∈ lw_tbl := List.mem_of_getElem? (i := 956) (by decide +kernel)
theorem wd_926 : (Jvm.Cond.methodLink "ReadSideModel" (142 : Nat) ({ cls := "ReadSideModel", name := "position", desc := "(JI)I" } : Jvm.MethodName)) ∈ lw_tbl := List.mem_of_getElem? (i := 957) (by decide +kernel)
theorem wd_927 : (Jvm.Cond.static ({ cls := "ReadSideModel", name := "position", desc := "(JI)I" } : Jvm.MethodName)) ∈ lw_tbl := List.mem_of_getElem? (i := 958) (by decide +kernel)
theorem wd_796 : (Jvm.Cond.constantLong "ReadSideModel" (146 : Nat) (7 : Int64)) ∈ lw_tbl := List.mem_of_getElem? (i := 827) (by decide +kernel)
theorem wd_797 : (Jvm.Cond.methodLink "ReadSideModel" (148 : Nat) ({ cls := "ReadSideModel", name := "in", desc := "(JJJ)Z" } : Jvm.MethodName)) ∈ lw_tbl := List.mem_of_getElem? (i := 828) (by decide +kernel)
theorem wd_798 : (Jvm.Cond.static ({ cls := "ReadSideModel", name := "in", desc := "(JJJ)Z" } : Jvm.MethodName)) ∈ lw_tbl := List.mem_of_getElem? (i := 829) (by decide +kernel)
theorem wd_793 : (Jvm.Cond.methodLink "ReadSideModel" (152 : Nat) ({ cls := "ReadSideModel", name := "isSession", desc := "(I)Z" } : Jvm.MethodName)) ∈ lw_tbl := List.mem_of_getElem? (i := 824) (by decide +kernel)
theorem wd_794 : (Jvm.Cond.static ({ cls := "ReadSideModel", name := "isSession", desc := "(I)Z" } : Jvm.MethodName)) ∈ lw_tbl := List.mem_of_getElem? (i := 825) (by decide +kernel)
theorem wd_800 : (Jvm.Cond.constantLong "ReadSideModel" (156 : Nat) (15 : Int64)) ∈ lw_tbl := List.mem_of_getElem? (i := 831) (by decide +kernel)
theorem wd_801 : (Jvm.Cond.methodLink "ReadSideModel" (158 : Nat) ({ cls := "ReadSideModel", name := "look", desc := "(I)V" } : Jvm.MethodName)) ∈ lw_tbl := List.mem_of_getElem? (i := 832) (by decide +kernel)
theorem wd_803 : (Jvm.Cond.instanceMethod ({ cls := "ReadSideModel", name := "look", desc := "(I)V" } : Jvm.MethodName)) ∈ lw_tbl := List.mem_of_getElem? (i := 834) (by decide +kernel)
theorem wp_14 : Jvm.Cond.selects "ReadSideModel" (⟨"ReadSideModel", "look", "(I)V"⟩ : Jvm.MethodName) ⟨"ReadSideModel", "look", "(I)V"⟩ ∈ lw_tbl := List.mem_of_getElem? (i := 14) (by decide +kernel)
theorem wd_842 : (Jvm.Cond.methodLink "ReadSideModel" (162 : Nat) ({ cls := "ReadSideModel", name := "isReplica", desc := "(I)Z" } : Jvm.MethodName)) ∈ lw_tbl := List.mem_of_getElem? (i := 873) (by decide +kernel)
theorem wd_844 : (Jvm.Cond.instanceMethod ({ cls := "ReadSideModel", name := "isReplica", desc := "(I)Z" } : Jvm.MethodName)) ∈ lw_tbl := List.mem_of_getElem? (i := 875) (by decide +kernel)
theorem wp_20 : Jvm.Cond.selects "ReadSideModel" (⟨"ReadSideModel", "isReplica", "(I)Z"⟩ : Jvm.MethodName) ⟨"ReadSideModel", "isReplica", "(I)Z"⟩ ∈ lw_tbl := List.mem_of_getElem? (i := 20) (by decide +kernel)
theorem wd_850 : (Jvm.Cond.constantLong "ReadSideModel" (165 : Nat) (29 : Int64)) ∈ lw_tbl := List.mem_of_getElem? (i := 881) (by decide +kernel)
theorem wd_851 : (Jvm.Cond.constantLong "ReadSideModel" (167 : Nat) (9 : Int64)) ∈ lw_tbl := List.mem_of_getElem? (i := 882) (by decide +kernel)
theorem wd_852 : (Jvm.Cond.constantLong "ReadSideModel" (169 : Nat) (4 : Int64)) ∈ lw_tbl := List.mem_of_getElem? (i := 883) (by decide +kernel)
theorem wd_853 : (Jvm.Cond.constantLong "ReadSideModel" (171 : Nat) (1000 : Int64)) ∈ lw_tbl := List.mem_of_getElem? (i := 884) (by decide +kernel)
theorem wd_835 : (Jvm.Cond.methodLink "ReadSideModel" (173 : Nat) ({ cls := "ReadSideModel", name := "greater", desc := "(II)I" } : Jvm.MethodName)) ∈ lw_tbl := List.mem_of_getElem? (i := 866) (by decide +kernel)
theorem wd_836 : (Jvm.Cond.static ({ cls := "ReadSideModel", name := "greater", desc := "(II)I" } : Jvm.MethodName)) ∈ lw_tbl := List.mem_of_getElem? (i := 867) (by decide +kernel)
theorem wd_825 : (Jvm.Cond.methodLink "ReadSideModel" (177 : Nat) ({ cls := "ReadSideModel", name := "tokenOf", desc := "(III)J" } : Jvm.MethodName)) ∈ lw_tbl := List.mem_of_getElem? (i := 856) (by decide +kernel)
theorem wd_826 : (Jvm.Cond.static ({ cls := "ReadSideModel", name := "tokenOf", desc := "(III)J" } : Jvm.MethodName)) ∈ lw_tbl := List.mem_of_getElem? (i := 857) (by decide +kernel)
theorem wd_870 : (Jvm.Cond.constant "ReadSideModel" (181 : Nat) (100000 : Int32)) ∈ lw_tbl := List.mem_of_getElem? (i := 901) (by decide +kernel)
theorem wd_871 : (Jvm.Cond.methodLink "ReadSideModel" (182 : Nat) ({ cls := "ReadSideModel", name := "lesser", desc := "(II)I" } : Jvm.MethodName)) ∈ lw_tbl := List.mem_of_getElem? (i := 902) (by decide +kernel)
theorem wd_872 : (Jvm.Cond.static ({ cls := "ReadSideModel", name := "lesser", desc := "(II)I" } : Jvm.MethodName)) ∈ lw_tbl := List.mem_of_getElem? (i := 903) (by decide +kernel)
theorem wd_809 : (Jvm.Cond.methodLink "ReadSideModel" (185 : Nat) ({ cls := "ReadSideModel", name := "covers", desc := "([III)Z" } : Jvm.MethodName)) ∈ lw_tbl := List.mem_of_getElem? (i := 840) (by decide +kernel)
theorem wd_811 : (Jvm.Cond.instanceMethod ({ cls := "ReadSideModel", name := "covers", desc := "([III)Z" } : Jvm.MethodName)) ∈ lw_tbl := List.mem_of_getElem? (i := 842) (by decide +kernel)
theorem wp_16 : Jvm.Cond.selects "ReadSideModel" (⟨"ReadSideModel", "covers", "([III)Z"⟩ : Jvm.MethodName) ⟨"ReadSideModel", "covers", "([III)Z"⟩ ∈ lw_tbl := List.mem_of_getElem? (i := 16) (by decide +kernel)
theorem wd_866 : (Jvm.Cond.methodLink "ReadSideModel" (189 : Nat) ({ cls := "ReadSideModel", name := "take", desc := "(II)V" } : Jvm.MethodName)) ∈ lw_tbl := List.mem_of_getElem? (i := 897) (by decide +kernel)
theorem wd_868 : (Jvm.Cond.instanceMethod ({ cls := "ReadSideModel", name := "take", desc := "(II)V" } : Jvm.MethodName)) ∈ lw_tbl := List.mem_of_getElem? (i := 899) (by decide +kernel)
theorem wp_23 : Jvm.Cond.selects "ReadSideModel" (⟨"ReadSideModel", "take", "(II)V"⟩ : Jvm.MethodName) ⟨"ReadSideModel", "take", "(II)V"⟩ ∈ lw_tbl := List.mem_of_getElem? (i := 23) (by decide +kernel)
theorem wd_858 : (Jvm.Cond.methodLink "ReadSideModel" (193 : Nat) ({ cls := "ReadSideModel", name := "isPart", desc := "(I)Z" } : Jvm.MethodName)) ∈ lw_tbl := List.mem_of_getElem? (i := 889) (by decide +kernel)
theorem wd_860 : (Jvm.Cond.instanceMethod ({ cls := "ReadSideModel", name := "isPart", desc := "(I)Z" } : Jvm.MethodName)) ∈ lw_tbl := List.mem_of_getElem? (i := 891) (by decide +kernel)
theorem wp_21 : Jvm.Cond.selects "ReadSideModel" (⟨"ReadSideModel", "isPart", "(I)Z"⟩ : Jvm.MethodName) ⟨"ReadSideModel", "isPart", "(I)Z"⟩ ∈ lw_tbl := List.mem_of_getElem? (i := 21) (by decide +kernel)
theorem wd_862 : (Jvm.Cond.methodLink "ReadSideModel" (196 : Nat) ({ cls := "ReadSideModel", name := "advance", desc := "(II)I" } : Jvm.MethodName)) ∈ lw_tbl := List.mem_of_getElem? (i := 893) (by decide +kernel)
theorem wd_864 : (Jvm.Cond.instanceMethod ({ cls := "ReadSideModel", name := "advance", desc := "(II)I" } : Jvm.MethodName)) ∈ lw_tbl := List.mem_of_getElem? (i := 895) (by decide +kernel)
theorem wp_22 : Jvm.Cond.selects "ReadSideModel" (⟨"ReadSideModel", "advance", "(II)I"⟩ : Jvm.MethodName) ⟨"ReadSideModel", "advance", "(II)I"⟩ ∈ lw_tbl := List.mem_of_getElem? (i := 22) (by decide +kernel)
theorem wd_878 : (Jvm.Cond.constantLong "ReadSideModel" (199 : Nat) (10 : Int64)) ∈ lw_tbl := List.mem_of_getElem? (i := 909) (by decide +kernel)
theorem wd_669 : (Jvm.Cond.fieldLink "ReadSideModel" (201 : Nat) "ReadSideModel" "time" "I") ∈ lw_tbl := List.mem_of_getElem? (i := 700) (by decide +kernel)
theorem wd_692 : (Jvm.Cond.fieldLink "ReadSideModel" (204 : Nat) "ReadSideModel" "reads" "I") ∈ lw_tbl := List.mem_of_getElem? (i := 723) (by decide +kernel)
theorem wd_888 : (Jvm.Cond.methodLink "ReadSideModel" (207 : Nat) ({ cls := "ReadSideModel", name := "fail", desc := "(I)V" } : Jvm.MethodName)) ∈ lw_tbl := List.mem_of_getElem? (i := 919) (by decide +kernel)
theorem wd_890 : (Jvm.Cond.instanceMethod ({ cls := "ReadSideModel", name := "fail", desc := "(I)V" } : Jvm.MethodName)) ∈ lw_tbl := List.mem_of_getElem? (i := 921) (by decide +kernel)
theorem wp_25 : Jvm.Cond.selects "ReadSideModel" (⟨"ReadSideModel", "fail", "(I)V"⟩ : Jvm.MethodName) ⟨"ReadSideModel", "fail", "(I)V"⟩ ∈ lw_tbl := List.mem_of_getElem? (i := 25) (by decide +kernel)
theorem wd_883 : (Jvm.Cond.constantLong "ReadSideModel" (210 : Nat) (100 : Int64)) ∈ lw_tbl := List.mem_of_getElem? (i := 914) (by decide +kernel)
theorem wd_884 : (Jvm.Cond.methodLink "ReadSideModel" (212 : Nat) ({ cls := "ReadSideModel", name := "tick", desc := "()I" } : Jvm.MethodName)) ∈ lw_tbl := List.mem_of_getElem? (i := 915) (by decide +kernel)
theorem wd_886 : (Jvm.Cond.instanceMethod ({ cls := "ReadSideModel", name := "tick", desc := "()I" } : Jvm.MethodName)) ∈ lw_tbl := List.mem_of_getElem? (i := 917) (by decide +kernel)
theorem wp_24 : Jvm.Cond.selects "ReadSideModel" (⟨"ReadSideModel", "tick", "()I"⟩ : Jvm.MethodName) ⟨"ReadSideModel", "tick", "()I"⟩ ∈ lw_tbl := List.mem_of_getElem? (i := 24) (by decide +kernel)
theorem wd_900 : (Jvm.Cond.methodLink "ReadSideModel" (216 : Nat) ({ cls := "ReadSideModel", name := "copy", desc := "(II)V" } : Jvm.MethodName)) ∈ lw_tbl := List.mem_of_getElem? (i := 931) (by decide +kernel)
theorem wd_902 : (Jvm.Cond.instanceMethod ({ cls := "ReadSideModel", name := "copy", desc := "(II)V" } : Jvm.MethodName)) ∈ lw_tbl := List.mem_of_getElem? (i := 933) (by decide +kernel)
theorem wp_26 : Jvm.Cond.selects "ReadSideModel" (⟨"ReadSideModel", "copy", "(II)V"⟩ : Jvm.MethodName) ⟨"ReadSideModel", "copy", "(II)V"⟩ ∈ lw_tbl := List.mem_of_getElem? (i := 26) (by decide +kernel)
theorem wd_904 : (Jvm.Cond.methodLink "ReadSideModel" (219 : Nat) ({ cls := "ReadSideModel", name := "sum", desc := "(I)I" } : Jvm.MethodName)) ∈ lw_tbl := List.mem_of_getElem? (i := 935) (by decide +kernel)
theorem wd_906 : (Jvm.Cond.instanceMethod ({ cls := "ReadSideModel", name := "sum", desc := "(I)I" } : Jvm.MethodName)) ∈ lw_tbl := List.mem_of_getElem? (i := 937) (by decide +kernel)
theorem wp_27 : Jvm.Cond.selects "ReadSideModel" (⟨"ReadSideModel", "sum", "(I)I"⟩ : Jvm.MethodName) ⟨"ReadSideModel", "sum", "(I)I"⟩ ∈ lw_tbl := List.mem_of_getElem? (i := 27) (by decide +kernel)
theorem wd_930 : (Jvm.Cond.constantLong "ReadSideModel" (223 : Nat) (-1 : Int64)) ∈ lw_tbl := List.mem_of_getElem? (i := 961) (by decide +kernel)
theorem wd_821 : (Jvm.Cond.methodLink "ReadSideModel" (225 : Nat) ({ cls := "ReadSideModel", name := "ranked", desc := "(II)I" } : Jvm.MethodName)) ∈ lw_tbl := List.mem_of_getElem? (i := 852) (by decide +kernel)
theorem wd_823 : (Jvm.Cond.instanceMethod ({ cls := "ReadSideModel", name := "ranked", desc := "(II)I" } : Jvm.MethodName)) ∈ lw_tbl := List.mem_of_getElem? (i := 854) (by decide +kernel)
theorem wp_19 : Jvm.Cond.selects "ReadSideModel" (⟨"ReadSideModel", "ranked", "(II)I"⟩ : Jvm.MethodName) ⟨"ReadSideModel", "ranked", "(II)I"⟩ ∈ lw_tbl := List.mem_of_getElem? (i := 19) (by decide +kernel)
theorem wd_817 : (Jvm.Cond.methodLink "ReadSideModel" (228 : Nat) ({ cls := "ReadSideModel", name := "tell", desc := "(III)J" } : Jvm.MethodName)) ∈ lw_tbl := List.mem_of_getElem? (i := 848) (by decide +kernel)
theorem wd_819 : (Jvm.Cond.instanceMethod ({ cls := "ReadSideModel", name := "tell", desc := "(III)J" } : Jvm.MethodName)) ∈ lw_tbl := List.mem_of_getElem? (i := 850) (by decide +kernel)
theorem wp_18 : Jvm.Cond.selects "ReadSideModel" (⟨"ReadSideModel", "tell", "(III)J"⟩ : Jvm.MethodName) ⟨"ReadSideModel", "tell", "(III)J"⟩ ∈ lw_tbl := List.mem_of_getElem? (i := 18) (by decide +kernel)
theorem wd_805 : (Jvm.Cond.methodLink "ReadSideModel" (231 : Nat) ({ cls := "ReadSideModel", name := "may", desc := "(II)Z" } : Jvm.MethodName)) ∈ lw_tbl := List.mem_of_getElem? (i := 836) (by decide +kernel)
theorem wd_807 : (Jvm.Cond.instanceMethod ({ cls := "ReadSideModel", name := "may", desc := "(II)Z" } : Jvm.MethodName)) ∈ lw_tbl := List.mem_of_getElem? (i := 838) (by decide +kernel)
theorem wp_15 : Jvm.Cond.selects "ReadSideModel" (⟨"ReadSideModel", "may", "(II)Z"⟩ : Jvm.MethodName) ⟨"ReadSideModel", "may", "(II)Z"⟩ ∈ lw_tbl := List.mem_of_getElem? (i := 15) (by decide +kernel)
theorem wd_813 : (Jvm.Cond.methodLink "ReadSideModel" (235 : Nat) ({ cls := "ReadSideModel", name := "answer", desc := "(II)V" } : Jvm.MethodName)) ∈ lw_tbl := List.mem_of_getElem? (i := 844) (by decide +kernel)
theorem wd_815 : (Jvm.Cond.instanceMethod ({ cls := "ReadSideModel", name := "answer", desc := "(II)V" } : Jvm.MethodName)) ∈ lw_tbl := List.mem_of_getElem? (i := 846) (by decide +kernel)
theorem wp_17 : Jvm.Cond.selects "ReadSideModel" (⟨"ReadSideModel", "answer", "(II)V"⟩ : Jvm.MethodName) ⟨"ReadSideModel", "answer", "(II)V"⟩ ∈ lw_tbl := List.mem_of_getElem? (i := 17) (by decide +kernel)
theorem wd_920 : (Jvm.Cond.methodLink "ReadSideModel" (237 : Nat) ({ cls := "ReadSideModel", name := "isToken", desc := "(J)Z" } : Jvm.MethodName)) ∈ lw_tbl := List.mem_of_getElem? (i := 951) (by decide +kernel)
theorem wd_922 : (Jvm.Cond.instanceMethod ({ cls := "ReadSideModel", name := "isToken", desc := "(J)Z" } : Jvm.MethodName)) ∈ lw_tbl := List.mem_of_getElem? (i := 953) (by decide +kernel)
theorem wp_28 : Jvm.Cond.selects "ReadSideModel" (⟨"ReadSideModel", "isToken", "(J)Z"⟩ : Jvm.MethodName) ⟨"ReadSideModel", "isToken", "(J)Z"⟩ ∈ lw_tbl := List.mem_of_getElem? (i := 28) (by decide +kernel)
theorem wd_931 : (Jvm.Cond.constantLong "ReadSideModel" (241 : Nat) (400 : Int64)) ∈ lw_tbl := List.mem_of_getElem? (i := 962) (by decide +kernel)
theorem wd_932 : (Jvm.Cond.methodLink "ReadSideModel" (243 : Nat) ({ cls := "ReadSideModel", name := "isQuestion", desc := "(II)Z" } : Jvm.MethodName)) ∈ lw_tbl := List.mem_of_getElem? (i := 963) (by decide +kernel)
theorem wd_934 : (Jvm.Cond.instanceMethod ({ cls := "ReadSideModel", name := "isQuestion", desc := "(II)Z" } : Jvm.MethodName)) ∈ lw_tbl := List.mem_of_getElem? (i := 965) (by decide +kernel)
theorem wp_29 : Jvm.Cond.selects "ReadSideModel" (⟨"ReadSideModel", "isQuestion", "(II)Z"⟩ : Jvm.MethodName) ⟨"ReadSideModel", "isQuestion", "(II)Z"⟩ ∈ lw_tbl := List.mem_of_getElem? (i := 29) (by decide +kernel)
theorem wd_936 : (Jvm.Cond.methodLink "ReadSideModel" (246 : Nat) ({ cls := "ReadSideModel", name := "waiting", desc := "()I" } : Jvm.MethodName)) ∈ lw_tbl := List.mem_of_getElem? (i := 967) (by decide +kernel)
theorem wd_938 : (Jvm.Cond.instanceMethod ({ cls := "ReadSideModel", name := "waiting", desc := "()I" } : Jvm.MethodName)) ∈ lw_tbl := List.mem_of_getElem? (i := 969) (by decide +kernel)
theorem wp_30 : Jvm.Cond.selects "ReadSideModel" (⟨"ReadSideModel", "waiting", "()I"⟩ : Jvm.MethodName) ⟨"ReadSideModel", "waiting", "()I"⟩ ∈ lw_tbl := List.mem_of_getElem? (i := 30) (by decide +kernel)
theorem wd_944 : (Jvm.Cond.constantLong "ReadSideModel" (249 : Nat) (5 : Int64)) ∈ lw_tbl := List.mem_of_getElem? (i := 975) (by decide +kernel)
theorem wd_965 : (Jvm.Cond.constantLong "ReadSideModel" (251 : Nat) (6 : Int64)) ∈ lw_tbl := List.mem_of_getElem? (i := 996) (by decide +kernel)
theorem wd_188 : (Jvm.Cond.methodLink "ReadSideLaw" (7 : Nat) ({ cls := "ReadSide", name := "mode", desc := "(II)I" } : Jvm.MethodName)) ∈ lw_tbl := List.mem_of_getElem? (i := 219) (by decide +kernel)
theorem wd_189 : (Jvm.Cond.instanceMethod ({ cls := "ReadSide", name := "mode", desc := "(II)I" } : Jvm.MethodName)) ∈ lw_tbl := List.mem_of_getElem? (i := 220) (by decide +kernel)
theorem wd_190 : (Jvm.Cond.selects "ReadSide" ({ cls := "ReadSide", name := "mode", desc := "(II)I" } : Jvm.MethodName) ({ cls := "ReadSide", name := "mode", desc := "(II)I" } : Jvm.MethodName)) ∈ lw_tbl := List.mem_of_getElem? (i := 221) (by decide +kernel)
theorem wd_339 : (Jvm.Cond.methodLink "ReadSideLaw" (17 : Nat) ({ cls := "ReadSide", name := "home", desc := "(II)I" } : Jvm.MethodName)) ∈ lw_tbl := List.mem_of_getElem? (i := 370) (by decide +kernel)
theorem wd_340 : (Jvm.Cond.instanceMethod ({ cls := "ReadSide", name := "home", desc := "(II)I" } : Jvm.MethodName)) ∈ lw_tbl := List.mem_of_getElem? (i := 371) (by decide +kernel)
theorem wd_341 : (Jvm.Cond.selects "ReadSide" ({ cls := "ReadSide", name := "home", desc := "(II)I" } : Jvm.MethodName) ({ cls := "ReadSide", name := "home", desc := "(II)I" } : Jvm.MethodName)) ∈ lw_tbl := List.mem_of_getElem? (i := 372) (by decide +kernel)
theorem wd_347 : (Jvm.Cond.methodLink "ReadSideLaw" (20 : Nat) ({ cls := "ReadSide", name := "command", desc := "(IIIII)J" } : Jvm.MethodName)) ∈ lw_tbl := List.mem_of_getElem? (i := 378) (by decide +kernel)
theorem wd_348 : (Jvm.Cond.instanceMethod ({ cls := "ReadSide", name := "command", desc := "(IIIII)J" } : Jvm.MethodName)) ∈ lw_tbl := List.mem_of_getElem? (i := 379) (by decide +kernel)
theorem wd_349 : (Jvm.Cond.selects "ReadSide" ({ cls := "ReadSide", name := "command", desc := "(IIIII)J" } : Jvm.MethodName) ({ cls := "ReadSide", name := "command", desc := "(IIIII)J" } : Jvm.MethodName)) ∈ lw_tbl := List.mem_of_getElem? (i := 380) (by decide +kernel)
theorem wd_419 : (Jvm.Cond.methodLink "ReadSideLaw" (26 : Nat) ({ cls := "ReadSide", name := "step", desc := "(II)I" } : Jvm.MethodName)) ∈ lw_tbl := List.mem_of_getElem? (i := 450) (by decide +kernel)
theorem wd_420 : (Jvm.Cond.instanceMethod ({ cls := "ReadSide", name := "step", desc := "(II)I" } : Jvm.MethodName)) ∈ lw_tbl := List.mem_of_getElem? (i := 451) (by decide +kernel)
theorem wd_421 : (Jvm.Cond.selects "ReadSide" ({ cls := "ReadSide", name := "step", desc := "(II)I" } : Jvm.MethodName) ({ cls := "ReadSide", name := "step", desc := "(II)I" } : Jvm.MethodName)) ∈ lw_tbl := List.mem_of_getElem? (i := 452) (by decide +kernel)
theorem wd_459 : (Jvm.Cond.methodLink "ReadSideLaw" (29 : Nat) ({ cls := "ReadSide", name := "speed", desc := "(II)I" } : Jvm.MethodName)) ∈ lw_tbl := List.mem_of_getElem? (i := 490) (by decide +kernel)
theorem wd_460 : (Jvm.Cond.instanceMethod ({ cls := "ReadSide", name := "speed", desc := "(II)I" } : Jvm.MethodName)) ∈ lw_tbl := List.mem_of_getElem? (i := 491) (by decide +kernel)
theorem wd_461 : (Jvm.Cond.selects "ReadSide" ({ cls := "ReadSide", name := "speed", desc := "(II)I" } : Jvm.MethodName) ({ cls := "ReadSide", name := "speed", desc := "(II)I" } : Jvm.MethodName)) ∈ lw_tbl := List.mem_of_getElem? (i := 492) (by decide +kernel)
theorem wd_466 : (Jvm.Cond.methodLink "ReadSideLaw" (32 : Nat) ({ cls := "ReadSide", name := "ticks", desc := "(I)I" } : Jvm.MethodName)) ∈ lw_tbl := List.mem_of_getElem? (i := 497) (by decide +kernel)
theorem wd_467 : (Jvm.Cond.instanceMethod ({ cls := "ReadSide", name := "ticks", desc := "(I)I" } : Jvm.MethodName)) ∈ lw_tbl := List.mem_of_getElem? (i := 498) (by decide +kernel)
theorem wd_468 : (Jvm.Cond.selects "ReadSide" ({ cls := "ReadSide", name := "ticks", desc := "(I)I" } : Jvm.MethodName) ({ cls := "ReadSide", name := "ticks", desc := "(I)I" } : Jvm.MethodName)) ∈ lw_tbl := List.mem_of_getElem? (i := 499) (by decide +kernel)
theorem wd_485 : (Jvm.Cond.methodLink "ReadSideLaw" (36 : Nat) ({ cls := "ReadSide", name := "up", desc := "(IZ)Z" } : Jvm.MethodName)) ∈ lw_tbl := List.mem_of_getElem? (i := 516) (by decide +kernel)
theorem wd_486 : (Jvm.Cond.instanceMethod ({ cls := "ReadSide", name := "up", desc := "(IZ)Z" } : Jvm.MethodName)) ∈ lw_tbl := List.mem_of_getElem? (i := 517) (by decide +kernel)
theorem wd_487 : (Jvm.Cond.selects "ReadSide" ({ cls := "ReadSide", name := "up", desc := "(IZ)Z" } : Jvm.MethodName) ({ cls := "ReadSide", name := "up", desc := "(IZ)Z" } : Jvm.MethodName)) ∈ lw_tbl := List.mem_of_getElem? (i := 518) (by decide +kernel)
theorem wd_492 : (Jvm.Cond.methodLink "ReadSideLaw" (40 : Nat) ({ cls := "ReadSide", name := "snapshot", desc := "(I)I" } : Jvm.MethodName)) ∈ lw_tbl := List.mem_of_getElem? (i := 523) (by decide +kernel)
theorem wd_493 : (Jvm.Cond.instanceMethod ({ cls := "ReadSide", name := "snapshot", desc := "(I)I" } : Jvm.MethodName)) ∈ lw_tbl := List.mem_of_getElem? (i := 524) (by decide +kernel)
theorem wd_494 : (Jvm.Cond.selects "ReadSide" ({ cls := "ReadSide", name := "snapshot", desc := "(I)I" } : Jvm.MethodName) ({ cls := "ReadSide", name := "snapshot", desc := "(I)I" } : Jvm.MethodName)) ∈ lw_tbl := List.mem_of_getElem? (i := 525) (by decide +kernel)
theorem wd_514 : (Jvm.Cond.methodLink "ReadSideLaw" (43 : Nat) ({ cls := "ReadSide", name := "crash", desc := "(I)I" } : Jvm.MethodName)) ∈ lw_tbl := List.mem_of_getElem? (i := 545) (by decide +kernel)
theorem wd_515 : (Jvm.Cond.instanceMethod ({ cls := "ReadSide", name := "crash", desc := "(I)I" } : Jvm.MethodName)) ∈ lw_tbl := List.mem_of_getElem? (i := 546) (by decide +kernel)
theorem wd_516 : (Jvm.Cond.selects "ReadSide" ({ cls := "ReadSide", name := "crash", desc := "(I)I" } : Jvm.MethodName) ({ cls := "ReadSide", name := "crash", desc := "(I)I" } : Jvm.MethodName)) ∈ lw_tbl := List.mem_of_getElem? (i := 547) (by decide +kernel)
theorem wd_525 : (Jvm.Cond.methodLink "ReadSideLaw" (46 : Nat) ({ cls := "ReadSide", name := "ask", desc := "(IJIIII)I" } : Jvm.MethodName)) ∈ lw_tbl := List.mem_of_getElem? (i := 556) (by decide +kernel)
theorem wd_526 : (Jvm.Cond.instanceMethod ({ cls := "ReadSide", name := "ask", desc := "(IJIIII)I" } : Jvm.MethodName)) ∈ lw_tbl := List.mem_of_getElem? (i := 557) (by decide +kernel)
theorem wd_527 : (Jvm.Cond.selects "ReadSide" ({ cls := "ReadSide", name := "ask", desc := "(IJIIII)I" } : Jvm.MethodName) ({ cls := "ReadSide", name := "ask", desc := "(IJIIII)I" } : Jvm.MethodName)) ∈ lw_tbl := List.mem_of_getElem? (i := 558) (by decide +kernel)
theorem wd_598 : (Jvm.Cond.methodLink "ReadSideLaw" (50 : Nat) ({ cls := "ReadSide", name := "read", desc := "(II)J" } : Jvm.MethodName)) ∈ lw_tbl := List.mem_of_getElem? (i := 629) (by decide +kernel)
theorem wd_599 : (Jvm.Cond.instanceMethod ({ cls := "ReadSide", name := "read", desc := "(II)J" } : Jvm.MethodName)) ∈ lw_tbl := List.mem_of_getElem? (i := 630) (by decide +kernel)
theorem wd_600 : (Jvm.Cond.selects "ReadSide" ({ cls := "ReadSide", name := "read", desc := "(II)J" } : Jvm.MethodName) ({ cls := "ReadSide", name := "read", desc := "(II)J" } : Jvm.MethodName)) ∈ lw_tbl := List.mem_of_getElem? (i := 631) (by decide +kernel)
theorem wd_606 : (Jvm.Cond.methodLink "ReadSideLaw" (54 : Nat) ({ cls := "ReadSide", name := "value", desc := "(III)J" } : Jvm.MethodName)) ∈ lw_tbl := List.mem_of_getElem? (i := 637) (by decide +kernel)
theorem wd_607 : (Jvm.Cond.instanceMethod ({ cls := "ReadSide", name := "value", desc := "(III)J" } : Jvm.MethodName)) ∈ lw_tbl := List.mem_of_getElem? (i := 638) (by decide +kernel)
theorem wd_608 : (Jvm.Cond.selects "ReadSide" ({ cls := "ReadSide", name := "value", desc := "(III)J" } : Jvm.MethodName) ({ cls := "ReadSide", name := "value", desc := "(III)J" } : Jvm.MethodName)) ∈ lw_tbl := List.mem_of_getElem? (i := 639) (by decide +kernel)
theorem wd_613 : (Jvm.Cond.methodLink "ReadSideLaw" (58 : Nat) ({ cls := "ReadSide", name := "at", desc := "(II)I" } : Jvm.MethodName)) ∈ lw_tbl := List.mem_of_getElem? (i := 644) (by decide +kernel)
theorem wd_614 : (Jvm.Cond.instanceMethod ({ cls := "ReadSide", name := "at", desc := "(II)I" } : Jvm.MethodName)) ∈ lw_tbl := List.mem_of_getElem? (i := 645) (by decide +kernel)
theorem wd_615 : (Jvm.Cond.selects "ReadSide" ({ cls := "ReadSide", name := "at", desc := "(II)I" } : Jvm.MethodName) ({ cls := "ReadSide", name := "at", desc := "(II)I" } : Jvm.MethodName)) ∈ lw_tbl := List.mem_of_getElem? (i := 646) (by decide +kernel)
theorem wd_620 : (Jvm.Cond.methodLink "ReadSideLaw" (61 : Nat) ({ cls := "ReadSide", name := "kept", desc := "(II)I" } : Jvm.MethodName)) ∈ lw_tbl := List.mem_of_getElem? (i := 651) (by decide +kernel)
theorem wd_621 : (Jvm.Cond.instanceMethod ({ cls := "ReadSide", name := "kept", desc := "(II)I" } : Jvm.MethodName)) ∈ lw_tbl := List.mem_of_getElem? (i := 652) (by decide +kernel)
theorem wd_622 : (Jvm.Cond.selects "ReadSide" ({ cls := "ReadSide", name := "kept", desc := "(II)I" } : Jvm.MethodName) ({ cls := "ReadSide", name := "kept", desc := "(II)I" } : Jvm.MethodName)) ∈ lw_tbl := List.mem_of_getElem? (i := 653) (by decide +kernel)
theorem wd_627 : (Jvm.Cond.methodLink "ReadSideLaw" (64 : Nat) ({ cls := "ReadSide", name := "log", desc := "(II)I" } : Jvm.MethodName)) ∈ lw_tbl := List.mem_of_getElem? (i := 658) (by decide +kernel)
theorem wd_628 : (Jvm.Cond.instanceMethod ({ cls := "ReadSide", name := "log", desc := "(II)I" } : Jvm.MethodName)) ∈ lw_tbl := List.mem_of_getElem? (i := 659) (by decide +kernel)
theorem wd_629 : (Jvm.Cond.selects "ReadSide" ({ cls := "ReadSide", name := "log", desc := "(II)I" } : Jvm.MethodName) ({ cls := "ReadSide", name := "log", desc := "(II)I" } : Jvm.MethodName)) ∈ lw_tbl := List.mem_of_getElem? (i := 660) (by decide +kernel)
theorem wd_634 : (Jvm.Cond.methodLink "ReadSideLaw" (67 : Nat) ({ cls := "ReadSide", name := "logged", desc := "(III)I" } : Jvm.MethodName)) ∈ lw_tbl := List.mem_of_getElem? (i := 665) (by decide +kernel)
theorem wd_635 : (Jvm.Cond.instanceMethod ({ cls := "ReadSide", name := "logged", desc := "(III)I" } : Jvm.MethodName)) ∈ lw_tbl := List.mem_of_getElem? (i := 666) (by decide +kernel)
theorem wd_636 : (Jvm.Cond.selects "ReadSide" ({ cls := "ReadSide", name := "logged", desc := "(III)I" } : Jvm.MethodName) ({ cls := "ReadSide", name := "logged", desc := "(III)I" } : Jvm.MethodName)) ∈ lw_tbl := List.mem_of_getElem? (i := 667) (by decide +kernel)
theorem wd_642 : (Jvm.Cond.methodLink "ReadSideLaw" (71 : Nat) ({ cls := "ReadSide", name := "session", desc := "(III)I" } : Jvm.MethodName)) ∈ lw_tbl := List.mem_of_getElem? (i := 673) (by decide +kernel)
theorem wd_643 : (Jvm.Cond.instanceMethod ({ cls := "ReadSide", name := "session", desc := "(III)I" } : Jvm.MethodName)) ∈ lw_tbl := List.mem_of_getElem? (i := 674) (by decide +kernel)
theorem wd_644 : (Jvm.Cond.selects "ReadSide" ({ cls := "ReadSide", name := "session", desc := "(III)I" } : Jvm.MethodName) ({ cls := "ReadSide", name := "session", desc := "(III)I" } : Jvm.MethodName)) ∈ lw_tbl := List.mem_of_getElem? (i := 675) (by decide +kernel)
theorem wd_649 : (Jvm.Cond.methodLink "ReadSideLaw" (74 : Nat) ({ cls := "ReadSide", name := "told", desc := "(JI)I" } : Jvm.MethodName)) ∈ lw_tbl := List.mem_of_getElem? (i := 680) (by decide +kernel)
theorem wd_650 : (Jvm.Cond.instanceMethod ({ cls := "ReadSide", name := "told", desc := "(JI)I" } : Jvm.MethodName)) ∈ lw_tbl := List.mem_of_getElem? (i := 681) (by decide +kernel)
theorem wd_651 : (Jvm.Cond.selects "ReadSide" ({ cls := "ReadSide", name := "told", desc := "(JI)I" } : Jvm.MethodName) ({ cls := "ReadSide", name := "told", desc := "(JI)I" } : Jvm.MethodName)) ∈ lw_tbl := List.mem_of_getElem? (i := 682) (by decide +kernel)
theorem wd_656 : (Jvm.Cond.methodLink "ReadSideLaw" (78 : Nat) ({ cls := "ReadSide", name := "count", desc := "(I)I" } : Jvm.MethodName)) ∈ lw_tbl := List.mem_of_getElem? (i := 687) (by decide +kernel)
theorem wd_657 : (Jvm.Cond.instanceMethod ({ cls := "ReadSide", name := "count", desc := "(I)I" } : Jvm.MethodName)) ∈ lw_tbl := List.mem_of_getElem? (i := 688) (by decide +kernel)
theorem wd_658 : (Jvm.Cond.selects "ReadSide" ({ cls := "ReadSide", name := "count", desc := "(I)I" } : Jvm.MethodName) ({ cls := "ReadSide", name := "count", desc := "(I)I" } : Jvm.MethodName)) ∈ lw_tbl := List.mem_of_getElem? (i := 689) (by decide +kernel)
theorem wd_17 : (Jvm.Cond.classLink "ReadSideLaw" (8 : Nat) "ReadSide") ∈ lw_tbl := List.mem_of_getElem? (i := 48) (by decide +kernel)
theorem wd_180 : (Jvm.Cond.methodLink "ReadSideLaw" (81 : Nat) ({ cls := "ReadSideLaw", name := "cell", desc := "([II)I" } : Jvm.MethodName)) ∈ lw_tbl := List.mem_of_getElem? (i := 211) (by decide +kernel)
theorem wd_181 : (Jvm.Cond.static ({ cls := "ReadSideLaw", name := "cell", desc := "([II)I" } : Jvm.MethodName)) ∈ lw_tbl := List.mem_of_getElem? (i := 212) (by decide +kernel)
theorem wd_0 : (Jvm.Cond.initialized "ReadSideLaw") ∈ lw_tbl := List.mem_of_getElem? (i := 31) (by decide +kernel)
theorem wd_19 : (Jvm.Cond.methodLink "ReadSideLaw" (87 : Nat) ({ cls := "ReadSide", name := "<init>", desc := "(II)V" } : Jvm.MethodName)) ∈ lw_tbl := List.mem_of_getElem? (i := 50) (by decide +kernel)
theorem wd_20 : (Jvm.Cond.instanceMethod ({ cls := "ReadSide", name := "<init>", desc := "(II)V" } : Jvm.MethodName)) ∈ lw_tbl := List.mem_of_getElem? (i := 51) (by decide +kernel)
theorem wd_21 : (Jvm.Cond.code ({ cls := "ReadSide", name := "<init>", desc := "(II)V" } : Jvm.MethodName) prog_1_method_1_code (6 : Nat) (Option.none : Option Jvm.ClassFile.FieldType)) ∈ lw_tbl := List.mem_of_getElem? (i := 52) (by decide +kernel)
theorem wd_660 : (Jvm.Cond.classLink "ReadSideLaw" (90 : Nat) "ReadSideModel") ∈ lw_tbl := List.mem_of_getElem? (i := 691) (by decide +kernel)
theorem wd_662 : (Jvm.Cond.methodLink "ReadSideLaw" (92 : Nat) ({ cls := "ReadSideModel", name := "<init>", desc := "(II)V" } : Jvm.MethodName)) ∈ lw_tbl := List.mem_of_getElem? (i := 693) (by decide +kernel)
theorem wd_663 : (Jvm.Cond.instanceMethod ({ cls := "ReadSideModel", name := "<init>", desc := "(II)V" } : Jvm.MethodName)) ∈ lw_tbl := List.mem_of_getElem? (i := 694) (by decide +kernel)
theorem wd_664 : (Jvm.Cond.code ({ cls := "ReadSideModel", name := "<init>", desc := "(II)V" } : Jvm.MethodName) prog_9_method_1_code (4 : Nat) (Option.none : Option Jvm.ClassFile.FieldType)) ∈ lw_tbl := List.mem_of_getElem? (i := 695) (by decide +kernel)
theorem wd_183 : (Jvm.Cond.methodLink "ReadSideLaw" (93 : Nat) ({ cls := "ReadSideLaw", name := "mode", desc := "(LReadSide;II[J)I" } : Jvm.MethodName)) ∈ lw_tbl := List.mem_of_getElem? (i := 214) (by decide +kernel)
theorem wd_184 : (Jvm.Cond.static ({ cls := "ReadSideLaw", name := "mode", desc := "(LReadSide;II[J)I" } : Jvm.MethodName)) ∈ lw_tbl := List.mem_of_getElem? (i := 215) (by decide +kernel)
theorem wd_789 : (Jvm.Cond.methodLink "ReadSideLaw" (96 : Nat) ({ cls := "ReadSideModel", name := "mode", desc := "(II)I" } : Jvm.MethodName)) ∈ lw_tbl := List.mem_of_getElem? (i := 820) (by decide +kernel)
theorem wd_790 : (Jvm.Cond.instanceMethod ({ cls := "ReadSideModel", name := "mode", desc := "(II)I" } : Jvm.MethodName)) ∈ lw_tbl := List.mem_of_getElem? (i := 821) (by decide +kernel)
theorem wd_791 : (Jvm.Cond.selects "ReadSideModel" ({ cls := "ReadSideModel", name := "mode", desc := "(II)I" } : Jvm.MethodName) ({ cls := "ReadSideModel", name := "mode", desc := "(II)I" } : Jvm.MethodName)) ∈ lw_tbl := List.mem_of_getElem? (i := 822) (by decide +kernel)
theorem wd_785 : (Jvm.Cond.methodLink "ReadSideLaw" (97 : Nat) ({ cls := "ReadSideModel", name := "thrown", desc := "()I" } : Jvm.MethodName)) ∈ lw_tbl := List.mem_of_getElem? (i := 816) (by decide +kernel)
theorem wd_786 : (Jvm.Cond.instanceMethod ({ cls := "ReadSideModel", name := "thrown", desc := "()I" } : Jvm.MethodName)) ∈ lw_tbl := List.mem_of_getElem? (i := 817) (by decide +kernel)
theorem wd_787 : (Jvm.Cond.selects "ReadSideModel" ({ cls := "ReadSideModel", name := "thrown", desc := "()I" } : Jvm.MethodName) ({ cls := "ReadSideModel", name := "thrown", desc := "()I" } : Jvm.MethodName)) ∈ lw_tbl := List.mem_of_getElem? (i := 818) (by decide +kernel)
theorem wd_336 : (Jvm.Cond.methodLink "ReadSideLaw" (101 : Nat) ({ cls := "ReadSideLaw", name := "home", desc := "(LReadSide;II[J)I" } : Jvm.MethodName)) ∈ lw_tbl := List.mem_of_getElem? (i := 367) (by decide +kernel)
theorem wd_337 : (Jvm.Cond.static ({ cls := "ReadSideLaw", name := "home", desc := "(LReadSide;II[J)I" } : Jvm.MethodName)) ∈ lw_tbl := List.mem_of_getElem? (i := 368) (by decide +kernel)
theorem wd_838 : (Jvm.Cond.methodLink "ReadSideLaw" (103 : Nat) ({ cls := "ReadSideModel", name := "home", desc := "(II)I" } : Jvm.MethodName)) ∈ lw_tbl := List.mem_of_getElem? (i := 869) (by decide +kernel)
theorem wd_839 : (Jvm.Cond.instanceMethod ({ cls := "ReadSideModel", name := "home", desc := "(II)I" } : Jvm.MethodName)) ∈ lw_tbl := List.mem_of_getElem? (i := 870) (by decide +kernel)
theorem wd_840 : (Jvm.Cond.selects "ReadSideModel" ({ cls := "ReadSideModel", name := "home", desc := "(II)I" } : Jvm.MethodName) ({ cls := "ReadSideModel", name := "home", desc := "(II)I" } : Jvm.MethodName)) ∈ lw_tbl := List.mem_of_getElem? (i := 871) (by decide +kernel)
theorem wd_343 : (Jvm.Cond.methodLink "ReadSideLaw" (104 : Nat) ({ cls := "ReadSideLaw", name := "command", desc := "(LReadSide;IIIII[J)I" } : Jvm.MethodName)) ∈ lw_tbl := List.mem_of_getElem? (i := 374) (by decide +kernel)
theorem wd_344 : (Jvm.Cond.static ({ cls := "ReadSideLaw", name := "command", desc := "(LReadSide;IIIII[J)I" } : Jvm.MethodName)) ∈ lw_tbl := List.mem_of_getElem? (i := 375) (by decide +kernel)
theorem wd_846 : (Jvm.Cond.methodLink "ReadSideLaw" (107 : Nat) ({ cls := "ReadSideModel", name := "command", desc := "(IIIII)J" } : Jvm.MethodName)) ∈ lw_tbl := List.mem_of_getElem? (i := 877) (by decide +kernel)
theorem wd_847 : (Jvm.Cond.instanceMethod ({ cls := "ReadSideModel", name := "command", desc := "(IIIII)J" } : Jvm.MethodName)) ∈ lw_tbl := List.mem_of_getElem? (i := 878) (by decide +kernel)
theorem wd_848 : (Jvm.Cond.selects "ReadSideModel" ({ cls := "ReadSideModel", name := "command", desc := "(IIIII)J" } : Jvm.MethodName) ({ cls := "ReadSideModel", name := "command", desc := "(IIIII)J" } : Jvm.MethodName)) ∈ lw_tbl := List.mem_of_getElem? (i := 879) (by decide +kernel)
theorem wd_416 : (Jvm.Cond.methodLink "ReadSideLaw" (108 : Nat) ({ cls := "ReadSideLaw", name := "step", desc := "(LReadSide;II[J)I" } : Jvm.MethodName)) ∈ lw_tbl := List.mem_of_getElem? (i := 447) (by decide +kernel)
theorem wd_417 : (Jvm.Cond.static ({ cls := "ReadSideLaw", name := "step", desc := "(LReadSide;II[J)I" } : Jvm.MethodName)) ∈ lw_tbl := List.mem_of_getElem? (i := 448) (by decide +kernel)
theorem wd_854 : (Jvm.Cond.methodLink "ReadSideLaw" (110 : Nat) ({ cls := "ReadSideModel", name := "step", desc := "(II)I" } : Jvm.MethodName)) ∈ lw_tbl := List.mem_of_getElem? (i := 885) (by decide +kernel)
theorem wd_855 : (Jvm.Cond.instanceMethod ({ cls := "ReadSideModel", name := "step", desc := "(II)I" } : Jvm.MethodName)) ∈ lw_tbl := List.mem_of_getElem? (i := 886) (by decide +kernel)
theorem wd_856 : (Jvm.Cond.selects "ReadSideModel" ({ cls := "ReadSideModel", name := "step", desc := "(II)I" } : Jvm.MethodName) ({ cls := "ReadSideModel", name := "step", desc := "(II)I" } : Jvm.MethodName)) ∈ lw_tbl := List.mem_of_getElem? (i := 887) (by decide +kernel)
theorem wd_456 : (Jvm.Cond.methodLink "ReadSideLaw" (111 : Nat) ({ cls := "ReadSideLaw", name := "speed", desc := "(LReadSide;II[J)I" } : Jvm.MethodName)) ∈ lw_tbl := List.mem_of_getElem? (i := 487) (by decide +kernel)
theorem wd_457 : (Jvm.Cond.static ({ cls := "ReadSideLaw", name := "speed", desc := "(LReadSide;II[J)I" } : Jvm.MethodName)) ∈ lw_tbl := List.mem_of_getElem? (i := 488) (by decide +kernel)
theorem wd_874 : (Jvm.Cond.methodLink "ReadSideLaw" (113 : Nat) ({ cls := "ReadSideModel", name := "speed", desc := "(II)I" } : Jvm.MethodName)) ∈ lw_tbl := List.mem_of_getElem? (i := 905) (by decide +kernel)
theorem wd_875 : (Jvm.Cond.instanceMethod ({ cls := "ReadSideModel", name := "speed", desc := "(II)I" } : Jvm.MethodName)) ∈ lw_tbl := List.mem_of_getElem? (i := 906) (by decide +kernel)
theorem wd_876 : (Jvm.Cond.selects "ReadSideModel" ({ cls := "ReadSideModel", name := "speed", desc := "(II)I" } : Jvm.MethodName) ({ cls := "ReadSideModel", name := "speed", desc := "(II)I" } : Jvm.MethodName)) ∈ lw_tbl := List.mem_of_getElem? (i := 907) (by decide +kernel)
theorem wd_463 : (Jvm.Cond.methodLink "ReadSideLaw" (114 : Nat) ({ cls := "ReadSideLaw", name := "ticks", desc := "(LReadSide;I[J)I" } : Jvm.MethodName)) ∈ lw_tbl := List.mem_of_getElem? (i := 494) (by decide +kernel)
theorem wd_464 : (Jvm.Cond.static ({ cls := "ReadSideLaw", name := "ticks", desc := "(LReadSide;I[J)I" } : Jvm.MethodName)) ∈ lw_tbl := List.mem_of_getElem? (i := 495) (by decide +kernel)
theorem wd_879 : (Jvm.Cond.methodLink "ReadSideLaw" (117 : Nat) ({ cls := "ReadSideModel", name := "ticks", desc := "(I)I" } : Jvm.MethodName)) ∈ lw_tbl := List.mem_of_getElem? (i := 910) (by decide +kernel)
theorem wd_880 : (Jvm.Cond.instanceMethod ({ cls := "ReadSideModel", name := "ticks", desc := "(I)I" } : Jvm.MethodName)) ∈ lw_tbl := List.mem_of_getElem? (i := 911) (by decide +kernel)
theorem wd_881 : (Jvm.Cond.selects "ReadSideModel" ({ cls := "ReadSideModel", name := "ticks", desc := "(I)I" } : Jvm.MethodName) ({ cls := "ReadSideModel", name := "ticks", desc := "(I)I" } : Jvm.MethodName)) ∈ lw_tbl := List.mem_of_getElem? (i := 912) (by decide +kernel)
theorem wd_482 : (Jvm.Cond.methodLink "ReadSideLaw" (118 : Nat) ({ cls := "ReadSideLaw", name := "up", desc := "(LReadSide;IZ[J)I" } : Jvm.MethodName)) ∈ lw_tbl := List.mem_of_getElem? (i := 513) (by decide +kernel)
theorem wd_483 : (Jvm.Cond.static ({ cls := "ReadSideLaw", name := "up", desc := "(LReadSide;IZ[J)I" } : Jvm.MethodName)) ∈ lw_tbl := List.mem_of_getElem? (i := 514) (by decide +kernel)
theorem wd_892 : (Jvm.Cond.methodLink "ReadSideLaw" (121 : Nat) ({ cls := "ReadSideModel", name := "up", desc := "(IZ)Z" } : Jvm.MethodName)) ∈ lw_tbl := List.mem_of_getElem? (i := 923) (by decide +kernel)
theorem wd_893 : (Jvm.Cond.instanceMethod ({ cls := "ReadSideModel", name := "up", desc := "(IZ)Z" } : Jvm.MethodName)) ∈ lw_tbl := List.mem_of_getElem? (i := 924) (by decide +kernel)
theorem wd_894 : (Jvm.Cond.selects "ReadSideModel" ({ cls := "ReadSideModel", name := "up", desc := "(IZ)Z" } : Jvm.MethodName) ({ cls := "ReadSideModel", name := "up", desc := "(IZ)Z" } : Jvm.MethodName)) ∈ lw_tbl := List.mem_of_getElem? (i := 925) (by decide +kernel)
theorem wd_489 : (Jvm.Cond.methodLink "ReadSideLaw" (122 : Nat) ({ cls := "ReadSideLaw", name := "snapshot", desc := "(LReadSide;I[J)I" } : Jvm.MethodName)) ∈ lw_tbl := List.mem_of_getElem? (i := 520) (by decide +kernel)
theorem wd_490 : (Jvm.Cond.static ({ cls := "ReadSideLaw", name := "snapshot", desc := "(LReadSide;I[J)I" } : Jvm.MethodName)) ∈ lw_tbl := List.mem_of_getElem? (i := 521) (by decide +kernel)
theorem wd_896 : (Jvm.Cond.methodLink "ReadSideLaw" (124 : Nat) ({ cls := "ReadSideModel", name := "snapshot", desc := "(I)I" } : Jvm.MethodName)) ∈ lw_tbl := List.mem_of_getElem? (i := 927) (by decide +kernel)
theorem wd_897 : (Jvm.Cond.instanceMethod ({ cls := "ReadSideModel", name := "snapshot", desc := "(I)I" } : Jvm.MethodName)) ∈ lw_tbl := List.mem_of_getElem? (i := 928) (by decide +kernel)
theorem wd_898 : (Jvm.Cond.selects "ReadSideModel" ({ cls := "ReadSideModel", name := "snapshot", desc := "(I)I" } : Jvm.MethodName) ({ cls := "ReadSideModel", name := "snapshot", desc := "(I)I" } : Jvm.MethodName)) ∈ lw_tbl := List.mem_of_getElem? (i := 929) (by decide +kernel)
theorem wd_511 : (Jvm.Cond.methodLink "ReadSideLaw" (125 : Nat) ({ cls := "ReadSideLaw", name := "crash", desc := "(LReadSide;I[J)I" } : Jvm.MethodName)) ∈ lw_tbl := List.mem_of_getElem? (i := 542) (by decide +kernel)
theorem wd_512 : (Jvm.Cond.static ({ cls := "ReadSideLaw", name := "crash", desc := "(LReadSide;I[J)I" } : Jvm.MethodName)) ∈ lw_tbl := List.mem_of_getElem? (i := 543) (by decide +kernel)
theorem wd_908 : (Jvm.Cond.methodLink "ReadSideLaw" (127 : Nat) ({ cls := "ReadSideModel", name := "crash", desc := "(I)I" } : Jvm.MethodName)) ∈ lw_tbl := List.mem_of_getElem? (i := 939) (by decide +kernel)
theorem wd_909 : (Jvm.Cond.instanceMethod ({ cls := "ReadSideModel", name := "crash", desc := "(I)I" } : Jvm.MethodName)) ∈ lw_tbl := List.mem_of_getElem? (i := 940) (by decide +kernel)
theorem wd_910 : (Jvm.Cond.selects "ReadSideModel" ({ cls := "ReadSideModel", name := "crash", desc := "(I)I" } : Jvm.MethodName) ({ cls := "ReadSideModel", name := "crash", desc := "(I)I" } : Jvm.MethodName)) ∈ lw_tbl := List.mem_of_getElem? (i := 941) (by decide +kernel)
theorem wd_165 : (Jvm.Cond.methodLink "ReadSideLaw" (128 : Nat) ({ cls := "ReadSide", name := "trim", desc := "()I" } : Jvm.MethodName)) ∈ lw_tbl := List.mem_of_getElem? (i := 196) (by decide +kernel)
theorem wd_166 : (Jvm.Cond.instanceMethod ({ cls := "ReadSide", name := "trim", desc := "()I" } : Jvm.MethodName)) ∈ lw_tbl := List.mem_of_getElem? (i := 197) (by decide +kernel)
theorem wd_167 : (Jvm.Cond.selects "ReadSide" ({ cls := "ReadSide", name := "trim", desc := "()I" } : Jvm.MethodName) ({ cls := "ReadSide", name := "trim", desc := "()I" } : Jvm.MethodName)) ∈ lw_tbl := List.mem_of_getElem? (i := 198) (by decide +kernel)
theorem wd_912 : (Jvm.Cond.methodLink "ReadSideLaw" (131 : Nat) ({ cls := "ReadSideModel", name := "trim", desc := "()I" } : Jvm.MethodName)) ∈ lw_tbl := List.mem_of_getElem? (i := 943) (by decide +kernel)
theorem wd_913 : (Jvm.Cond.instanceMethod ({ cls := "ReadSideModel", name := "trim", desc := "()I" } : Jvm.MethodName)) ∈ lw_tbl := List.mem_of_getElem? (i := 944) (by decide +kernel)
theorem wd_914 : (Jvm.Cond.selects "ReadSideModel" ({ cls := "ReadSideModel", name := "trim", desc := "()I" } : Jvm.MethodName) ({ cls := "ReadSideModel", name := "trim", desc := "()I" } : Jvm.MethodName)) ∈ lw_tbl := List.mem_of_getElem? (i := 945) (by decide +kernel)
theorem wd_978 : (Jvm.Cond.constantLong "ReadSideLaw" (132 : Nat) (4294967295 : Int64)) ∈ lw_tbl := List.mem_of_getElem? (i := 1009) (by decide +kernel)
theorem wd_522 : (Jvm.Cond.methodLink "ReadSideLaw" (134 : Nat) ({ cls := "ReadSideLaw", name := "ask", desc := "(LReadSide;IJIIII[J)I" } : Jvm.MethodName)) ∈ lw_tbl := List.mem_of_getElem? (i := 553) (by decide +kernel)
theorem wd_523 : (Jvm.Cond.static ({ cls := "ReadSideLaw", name := "ask", desc := "(LReadSide;IJIIII[J)I" } : Jvm.MethodName)) ∈ lw_tbl := List.mem_of_getElem? (i := 554) (by decide +kernel)
theorem wd_916 : (Jvm.Cond.methodLink "ReadSideLaw" (137 : Nat) ({ cls := "ReadSideModel", name := "ask", desc := "(IJIIII)I" } : Jvm.MethodName)) ∈ lw_tbl := List.mem_of_getElem? (i := 947) (by decide +kernel)
theorem wd_917 : (Jvm.Cond.instanceMethod ({ cls := "ReadSideModel", name := "ask", desc := "(IJIIII)I" } : Jvm.MethodName)) ∈ lw_tbl := List.mem_of_getElem? (i := 948) (by decide +kernel)
theorem wd_918 : (Jvm.Cond.selects "ReadSideModel" ({ cls := "ReadSideModel", name := "ask", desc := "(IJIIII)I" } : Jvm.MethodName) ({ cls := "ReadSideModel", name := "ask", desc := "(IJIIII)I" } : Jvm.MethodName)) ∈ lw_tbl := List.mem_of_getElem? (i := 949) (by decide +kernel)
theorem wd_595 : (Jvm.Cond.methodLink "ReadSideLaw" (138 : Nat) ({ cls := "ReadSideLaw", name := "read", desc := "(LReadSide;II[J)I" } : Jvm.MethodName)) ∈ lw_tbl := List.mem_of_getElem? (i := 626) (by decide +kernel)
theorem wd_596 : (Jvm.Cond.static ({ cls := "ReadSideLaw", name := "read", desc := "(LReadSide;II[J)I" } : Jvm.MethodName)) ∈ lw_tbl := List.mem_of_getElem? (i := 627) (by decide +kernel)
theorem wd_940 : (Jvm.Cond.methodLink "ReadSideLaw" (140 : Nat) ({ cls := "ReadSideModel", name := "read", desc := "(II)J" } : Jvm.MethodName)) ∈ lw_tbl := List.mem_of_getElem? (i := 971) (by decide +kernel)
theorem wd_941 : (Jvm.Cond.instanceMethod ({ cls := "ReadSideModel", name := "read", desc := "(II)J" } : Jvm.MethodName)) ∈ lw_tbl := List.mem_of_getElem? (i := 972) (by decide +kernel)
theorem wd_942 : (Jvm.Cond.selects "ReadSideModel" ({ cls := "ReadSideModel", name := "read", desc := "(II)J" } : Jvm.MethodName) ({ cls := "ReadSideModel", name := "read", desc := "(II)J" } : Jvm.MethodName)) ∈ lw_tbl := List.mem_of_getElem? (i := 973) (by decide +kernel)
theorem wd_603 : (Jvm.Cond.methodLink "ReadSideLaw" (141 : Nat) ({ cls := "ReadSideLaw", name := "value", desc := "(LReadSide;III[J)I" } : Jvm.MethodName)) ∈ lw_tbl := List.mem_of_getElem? (i := 634) (by decide +kernel)
theorem wd_604 : (Jvm.Cond.static ({ cls := "ReadSideLaw", name := "value", desc := "(LReadSide;III[J)I" } : Jvm.MethodName)) ∈ lw_tbl := List.mem_of_getElem? (i := 635) (by decide +kernel)
theorem wd_945 : (Jvm.Cond.methodLink "ReadSideLaw" (144 : Nat) ({ cls := "ReadSideModel", name := "value", desc := "(III)J" } : Jvm.MethodName)) ∈ lw_tbl := List.mem_of_getElem? (i := 976) (by decide +kernel)
theorem wd_946 : (Jvm.Cond.instanceMethod ({ cls := "ReadSideModel", name := "value", desc := "(III)J" } : Jvm.MethodName)) ∈ lw_tbl := List.mem_of_getElem? (i := 977) (by decide +kernel)
theorem wd_947 : (Jvm.Cond.selects "ReadSideModel" ({ cls := "ReadSideModel", name := "value", desc := "(III)J" } : Jvm.MethodName) ({ cls := "ReadSideModel", name := "value", desc := "(III)J" } : Jvm.MethodName)) ∈ lw_tbl := List.mem_of_getElem? (i := 978) (by decide +kernel)
theorem wd_610 : (Jvm.Cond.methodLink "ReadSideLaw" (145 : Nat) ({ cls := "ReadSideLaw", name := "at", desc := "(LReadSide;II[J)I" } : Jvm.MethodName)) ∈ lw_tbl := List.mem_of_getElem? (i := 641) (by decide +kernel)
theorem wd_611 : (Jvm.Cond.static ({ cls := "ReadSideLaw", name := "at", desc := "(LReadSide;II[J)I" } : Jvm.MethodName)) ∈ lw_tbl := List.mem_of_getElem? (i := 642) (by decide +kernel)
theorem wd_949 : (Jvm.Cond.methodLink "ReadSideLaw" (147 : Nat) ({ cls := "ReadSideModel", name := "at", desc := "(II)I" } : Jvm.MethodName)) ∈ lw_tbl := List.mem_of_getElem? (i := 980) (by decide +kernel)
theorem wd_950 : (Jvm.Cond.instanceMethod ({ cls := "ReadSideModel", name := "at", desc := "(II)I" } : Jvm.MethodName)) ∈ lw_tbl := List.mem_of_getElem? (i := 981) (by decide +kernel)
theorem wd_951 : (Jvm.Cond.selects "ReadSideModel" ({ cls := "ReadSideModel", name := "at", desc := "(II)I" } : Jvm.MethodName) ({ cls := "ReadSideModel", name := "at", desc := "(II)I" } : Jvm.MethodName)) ∈ lw_tbl := List.mem_of_getElem? (i := 982) (by decide +kernel)
theorem wd_617 : (Jvm.Cond.methodLink "ReadSideLaw" (148 : Nat) ({ cls := "ReadSideLaw", name := "kept", desc := "(LReadSide;II[J)I" } : Jvm.MethodName)) ∈ lw_tbl := List.mem_of_getElem? (i := 648) (by decide +kernel)
theorem wd_618 : (Jvm.Cond.static ({ cls := "ReadSideLaw", name := "kept", desc := "(LReadSide;II[J)I" } : Jvm.MethodName)) ∈ lw_tbl := List.mem_of_getElem? (i := 649) (by decide +kernel)
theorem wd_953 : (Jvm.Cond.methodLink "ReadSideLaw" (150 : Nat) ({ cls := "ReadSideModel", name := "kept", desc := "(II)I" } : Jvm.MethodName)) ∈ lw_tbl := List.mem_of_getElem? (i := 984) (by decide +kernel)
theorem wd_954 : (Jvm.Cond.instanceMethod ({ cls := "ReadSideModel", name := "kept", desc := "(II)I" } : Jvm.MethodName)) ∈ lw_tbl := List.mem_of_getElem? (i := 985) (by decide +kernel)
theorem wd_955 : (Jvm.Cond.selects "ReadSideModel" ({ cls := "ReadSideModel", name := "kept", desc := "(II)I" } : Jvm.MethodName) ({ cls := "ReadSideModel", name := "kept", desc := "(II)I" } : Jvm.MethodName)) ∈ lw_tbl := List.mem_of_getElem? (i := 986) (by decide +kernel)
theorem wd_624 : (Jvm.Cond.methodLink "ReadSideLaw" (151 : Nat) ({ cls := "ReadSideLaw", name := "log", desc := "(LReadSide;II[J)I" } : Jvm.MethodName)) ∈ lw_tbl := List.mem_of_getElem? (i := 655) (by decide +kernel)
theorem wd_625 : (Jvm.Cond.static ({ cls := "ReadSideLaw", name := "log", desc := "(LReadSide;II[J)I" } : Jvm.MethodName)) ∈ lw_tbl := List.mem_of_getElem? (i := 656) (by decide +kernel)
theorem wd_957 : (Jvm.Cond.methodLink "ReadSideLaw" (153 : Nat) ({ cls := "ReadSideModel", name := "log", desc := "(II)I" } : Jvm.MethodName)) ∈ lw_tbl := List.mem_of_getElem? (i := 988) (by decide +kernel)
theorem wd_958 : (Jvm.Cond.instanceMethod ({ cls := "ReadSideModel", name := "log", desc := "(II)I" } : Jvm.MethodName)) ∈ lw_tbl := List.mem_of_getElem? (i := 989) (by decide +kernel)
theorem wd_959 : (Jvm.Cond.selects "ReadSideModel" ({ cls := "ReadSideModel", name := "log", desc := "(II)I" } : Jvm.MethodName) ({ cls := "ReadSideModel", name := "log", desc := "(II)I" } : Jvm.MethodName)) ∈ lw_tbl := List.mem_of_getElem? (i := 990) (by decide +kernel)
theorem wd_631 : (Jvm.Cond.methodLink "ReadSideLaw" (154 : Nat) ({ cls := "ReadSideLaw", name := "logged", desc := "(LReadSide;III[J)I" } : Jvm.MethodName)) ∈ lw_tbl := List.mem_of_getElem? (i := 662) (by decide +kernel)
theorem wd_632 : (Jvm.Cond.static ({ cls := "ReadSideLaw", name := "logged", desc := "(LReadSide;III[J)I" } : Jvm.MethodName)) ∈ lw_tbl := List.mem_of_getElem? (i := 663) (by decide +kernel)
theorem wd_961 : (Jvm.Cond.methodLink "ReadSideLaw" (156 : Nat) ({ cls := "ReadSideModel", name := "logged", desc := "(III)I" } : Jvm.MethodName)) ∈ lw_tbl := List.mem_of_getElem? (i := 992) (by decide +kernel)
theorem wd_962 : (Jvm.Cond.instanceMethod ({ cls := "ReadSideModel", name := "logged", desc := "(III)I" } : Jvm.MethodName)) ∈ lw_tbl := List.mem_of_getElem? (i := 993) (by decide +kernel)
theorem wd_963 : (Jvm.Cond.selects "ReadSideModel" ({ cls := "ReadSideModel", name := "logged", desc := "(III)I" } : Jvm.MethodName) ({ cls := "ReadSideModel", name := "logged", desc := "(III)I" } : Jvm.MethodName)) ∈ lw_tbl := List.mem_of_getElem? (i := 994) (by decide +kernel)
theorem wd_639 : (Jvm.Cond.methodLink "ReadSideLaw" (157 : Nat) ({ cls := "ReadSideLaw", name := "session", desc := "(LReadSide;III[J)I" } : Jvm.MethodName)) ∈ lw_tbl := List.mem_of_getElem? (i := 670) (by decide +kernel)
theorem wd_640 : (Jvm.Cond.static ({ cls := "ReadSideLaw", name := "session", desc := "(LReadSide;III[J)I" } : Jvm.MethodName)) ∈ lw_tbl := List.mem_of_getElem? (i := 671) (by decide +kernel)
theorem wd_966 : (Jvm.Cond.methodLink "ReadSideLaw" (159 : Nat) ({ cls := "ReadSideModel", name := "session", desc := "(III)I" } : Jvm.MethodName)) ∈ lw_tbl := List.mem_of_getElem? (i := 997) (by decide +kernel)
theorem wd_967 : (Jvm.Cond.instanceMethod ({ cls := "ReadSideModel", name := "session", desc := "(III)I" } : Jvm.MethodName)) ∈ lw_tbl := List.mem_of_getElem? (i := 998) (by decide +kernel)
theorem wd_968 : (Jvm.Cond.selects "ReadSideModel" ({ cls := "ReadSideModel", name := "session", desc := "(III)I" } : Jvm.MethodName) ({ cls := "ReadSideModel", name := "session", desc := "(III)I" } : Jvm.MethodName)) ∈ lw_tbl := List.mem_of_getElem? (i := 999) (by decide +kernel)
theorem wd_646 : (Jvm.Cond.methodLink "ReadSideLaw" (160 : Nat) ({ cls := "ReadSideLaw", name := "told", desc := "(LReadSide;JI[J)I" } : Jvm.MethodName)) ∈ lw_tbl := List.mem_of_getElem? (i := 677) (by decide +kernel)
theorem wd_647 : (Jvm.Cond.static ({ cls := "ReadSideLaw", name := "told", desc := "(LReadSide;JI[J)I" } : Jvm.MethodName)) ∈ lw_tbl := List.mem_of_getElem? (i := 678) (by decide +kernel)
theorem wd_970 : (Jvm.Cond.methodLink "ReadSideLaw" (163 : Nat) ({ cls := "ReadSideModel", name := "told", desc := "(JI)I" } : Jvm.MethodName)) ∈ lw_tbl := List.mem_of_getElem? (i := 1001) (by decide +kernel)
theorem wd_971 : (Jvm.Cond.instanceMethod ({ cls := "ReadSideModel", name := "told", desc := "(JI)I" } : Jvm.MethodName)) ∈ lw_tbl := List.mem_of_getElem? (i := 1002) (by decide +kernel)
theorem wd_972 : (Jvm.Cond.selects "ReadSideModel" ({ cls := "ReadSideModel", name := "told", desc := "(JI)I" } : Jvm.MethodName) ({ cls := "ReadSideModel", name := "told", desc := "(JI)I" } : Jvm.MethodName)) ∈ lw_tbl := List.mem_of_getElem? (i := 1003) (by decide +kernel)
theorem wd_653 : (Jvm.Cond.methodLink "ReadSideLaw" (164 : Nat) ({ cls := "ReadSideLaw", name := "count", desc := "(LReadSide;I[J)I" } : Jvm.MethodName)) ∈ lw_tbl := List.mem_of_getElem? (i := 684) (by decide +kernel)
theorem wd_654 : (Jvm.Cond.static ({ cls := "ReadSideLaw", name := "count", desc := "(LReadSide;I[J)I" } : Jvm.MethodName)) ∈ lw_tbl := List.mem_of_getElem? (i := 685) (by decide +kernel)
theorem wd_974 : (Jvm.Cond.methodLink "ReadSideLaw" (166 : Nat) ({ cls := "ReadSideModel", name := "count", desc := "(I)I" } : Jvm.MethodName)) ∈ lw_tbl := List.mem_of_getElem? (i := 1005) (by decide +kernel)
theorem wd_975 : (Jvm.Cond.instanceMethod ({ cls := "ReadSideModel", name := "count", desc := "(I)I" } : Jvm.MethodName)) ∈ lw_tbl := List.mem_of_getElem? (i := 1006) (by decide +kernel)
theorem wd_976 : (Jvm.Cond.selects "ReadSideModel" ({ cls := "ReadSideModel", name := "count", desc := "(I)I" } : Jvm.MethodName) ({ cls := "ReadSideModel", name := "count", desc := "(I)I" } : Jvm.MethodName)) ∈ lw_tbl := List.mem_of_getElem? (i := 1007) (by decide +kernel)
theorem wd_430 : (Jvm.Cond.code ({ cls := "ReadSide$Log", name := "commandAt", desc := "(I)LReadSide$Command;" } : Jvm.MethodName) prog_3_method_2_code (2 : Nat) (Option.some (Jvm.ClassFile.FieldType.object "ReadSide$Command"))) ∈ lw_tbl := List.mem_of_getElem? (i := 461) (by decide +kernel)
theorem wd_405 : (Jvm.Cond.code ({ cls := "ReadSide$Log", name := "append", desc := "(LReadSide$Command;)V" } : Jvm.MethodName) prog_3_method_3_code (2 : Nat) (Option.none : Option Jvm.ClassFile.FieldType)) ∈ lw_tbl := List.mem_of_getElem? (i := 436) (by decide +kernel)
theorem wd_179 : (Jvm.Cond.code ({ cls := "ReadSide$Log", name := "dropTo", desc := "(I)I" } : Jvm.MethodName) prog_3_method_4_code (4 : Nat) (Option.some Jvm.ClassFile.FieldType.int)) ∈ lw_tbl := List.mem_of_getElem? (i := 210) (by decide +kernel)
theorem wd_499 : (Jvm.Cond.code ({ cls := "ReadSide$Replica", name := "keep", desc := "()V" } : Jvm.MethodName) prog_5_method_2_code (1 : Nat) (Option.none : Option Jvm.ClassFile.FieldType)) ∈ lw_tbl := List.mem_of_getElem? (i := 530) (by decide +kernel)
theorem wd_521 : (Jvm.Cond.code ({ cls := "ReadSide$Replica", name := "comeAgain", desc := "()V" } : Jvm.MethodName) prog_5_method_3_code (1 : Nat) (Option.none : Option Jvm.ClassFile.FieldType)) ∈ lw_tbl := List.mem_of_getElem? (i := 552) (by decide +kernel)
theorem wd_370 : (Jvm.Cond.code ({ cls := "ReadSide$Session", name := "needsNow", desc := "()[I" } : Jvm.MethodName) prog_6_method_2_code (3 : Nat) (Option.some (Jvm.ClassFile.FieldType.array Jvm.ClassFile.FieldType.int))) ∈ lw_tbl := List.mem_of_getElem? (i := 401) (by decide +kernel)
theorem wd_330 : (Jvm.Cond.code ({ cls := "ReadSide$Session", name := "see", desc := "([I)V" } : Jvm.MethodName) prog_6_method_3_code (3 : Nat) (Option.none : Option Jvm.ClassFile.FieldType)) ∈ lw_tbl := List.mem_of_getElem? (i := 361) (by decide +kernel)
theorem wd_503 : (Jvm.Cond.code ({ cls := "ReadSide$State", name := "becomeLike", desc := "(LReadSide$State;)V" } : Jvm.MethodName) prog_7_method_2_code (2 : Nat) (Option.none : Option Jvm.ClassFile.FieldType)) ∈ lw_tbl := List.mem_of_getElem? (i := 534) (by decide +kernel)
theorem wd_437 : (Jvm.Cond.code ({ cls := "ReadSide$State", name := "take", desc := "(LReadSide$Command;)V" } : Jvm.MethodName) prog_7_method_3_code (5 : Nat) (Option.none : Option Jvm.ClassFile.FieldType)) ∈ lw_tbl := List.mem_of_getElem? (i := 468) (by decide +kernel)
theorem wd_441 : (Jvm.Cond.code ({ cls := "ReadSide$State", name := "receive", desc := "(II)V" } : Jvm.MethodName) prog_7_method_4_code (3 : Nat) (Option.none : Option Jvm.ClassFile.FieldType)) ∈ lw_tbl := List.mem_of_getElem? (i := 472) (by decide +kernel)
theorem wd_446 : (Jvm.Cond.code ({ cls := "ReadSide$State", name := "reserve", desc := "(III)V" } : Jvm.MethodName) prog_7_method_5_code (4 : Nat) (Option.none : Option Jvm.ClassFile.FieldType)) ∈ lw_tbl := List.mem_of_getElem? (i := 477) (by decide +kernel)
theorem wd_450 : (Jvm.Cond.code ({ cls := "ReadSide$State", name := "ship", desc := "(III)V" } : Jvm.MethodName) prog_7_method_6_code (5 : Nat) (Option.none : Option Jvm.ClassFile.FieldType)) ∈ lw_tbl := List.mem_of_getElem? (i := 481) (by decide +kernel)
theorem wd_454 : (Jvm.Cond.code ({ cls := "ReadSide$State", name := "release", desc := "(III)V" } : Jvm.MethodName) prog_7_method_7_code (6 : Nat) (Option.none : Option Jvm.ClassFile.FieldType)) ∈ lw_tbl := List.mem_of_getElem? (i := 485) (by decide +kernel)
theorem wd_307 : (Jvm.Cond.code ({ cls := "ReadSide$State", name := "answerTo", desc := "(III)J" } : Jvm.MethodName) prog_7_method_8_code (4 : Nat) (Option.some Jvm.ClassFile.FieldType.long)) ∈ lw_tbl := List.mem_of_getElem? (i := 338) (by decide +kernel)
theorem wd_311 : (Jvm.Cond.code ({ cls := "ReadSide$State", name := "heldBy", desc := "(I)J" } : Jvm.MethodName) prog_7_method_9_code (5 : Nat) (Option.some Jvm.ClassFile.FieldType.long)) ∈ lw_tbl := List.mem_of_getElem? (i := 342) (by decide +kernel)
theorem wd_315 : (Jvm.Cond.code ({ cls := "ReadSide$State", name := "itemRanked", desc := "(I)I" } : Jvm.MethodName) prog_7_method_10_code (6 : Nat) (Option.some Jvm.ClassFile.FieldType.int)) ∈ lw_tbl := List.mem_of_getElem? (i := 346) (by decide +kernel)
theorem wd_319 : (Jvm.Cond.code ({ cls := "ReadSide$State", name := "worth", desc := "(II)J" } : Jvm.MethodName) prog_7_method_11_code (6 : Nat) (Option.some Jvm.ClassFile.FieldType.long)) ∈ lw_tbl := List.mem_of_getElem? (i := 350) (by decide +kernel)
theorem wd_191 : (Jvm.Cond.code ({ cls := "ReadSide", name := "mode", desc := "(II)I" } : Jvm.MethodName) prog_1_method_2_code (6 : Nat) (Option.some Jvm.ClassFile.FieldType.int)) ∈ lw_tbl := List.mem_of_getElem? (i := 222) (by decide +kernel)
theorem wd_342 : (Jvm.Cond.code ({ cls := "ReadSide", name := "home", desc := "(II)I" } : Jvm.MethodName) prog_1_method_3_code (4 : Nat) (Option.some Jvm.ClassFile.FieldType.int)) ∈ lw_tbl := List.mem_of_getElem? (i := 373) (by decide +kernel)
theorem wd_350 : (Jvm.Cond.code ({ cls := "ReadSide", name := "command", desc := "(IIIII)J" } : Jvm.MethodName) prog_1_method_4_code (10 : Nat) (Option.some Jvm.ClassFile.FieldType.long)) ∈ lw_tbl := List.mem_of_getElem? (i := 381) (by decide +kernel)
theorem wd_422 : (Jvm.Cond.code ({ cls := "ReadSide", name := "step", desc := "(II)I" } : Jvm.MethodName) prog_1_method_5_code (3 : Nat) (Option.some Jvm.ClassFile.FieldType.int)) ∈ lw_tbl := List.mem_of_getElem? (i := 453) (by decide +kernel)
theorem wd_462 : (Jvm.Cond.code ({ cls := "ReadSide", name := "speed", desc := "(II)I" } : Jvm.MethodName) prog_1_method_6_code (4 : Nat) (Option.some Jvm.ClassFile.FieldType.int)) ∈ lw_tbl := List.mem_of_getElem? (i := 493) (by decide +kernel)
theorem wd_469 : (Jvm.Cond.code ({ cls := "ReadSide", name := "ticks", desc := "(I)I" } : Jvm.MethodName) prog_1_method_7_code (5 : Nat) (Option.some Jvm.ClassFile.FieldType.int)) ∈ lw_tbl := List.mem_of_getElem? (i := 500) (by decide +kernel)
theorem wd_488 : (Jvm.Cond.code ({ cls := "ReadSide", name := "up", desc := "(IZ)Z" } : Jvm.MethodName) prog_1_method_8_code (4 : Nat) (Option.some Jvm.ClassFile.FieldType.boolean)) ∈ lw_tbl := List.mem_of_getElem? (i := 519) (by decide +kernel)
theorem wd_495 : (Jvm.Cond.code ({ cls := "ReadSide", name := "snapshot", desc := "(I)I" } : Jvm.MethodName) prog_1_method_9_code (3 : Nat) (Option.some Jvm.ClassFile.FieldType.int)) ∈ lw_tbl := List.mem_of_getElem? (i := 526) (by decide +kernel)
theorem wd_517 : (Jvm.Cond.code ({ cls := "ReadSide", name := "crash", desc := "(I)I" } : Jvm.MethodName) prog_1_method_10_code (4 : Nat) (Option.some Jvm.ClassFile.FieldType.int)) ∈ lw_tbl := List.mem_of_getElem? (i := 548) (by decide +kernel)
theorem wd_168 : (Jvm.Cond.code ({ cls := "ReadSide", name := "trim", desc := "()I" } : Jvm.MethodName) prog_1_method_11_code (3 : Nat) (Option.some Jvm.ClassFile.FieldType.int)) ∈ lw_tbl := List.mem_of_getElem? (i := 199) (by decide +kernel)
theorem wd_528 : (Jvm.Cond.code ({ cls := "ReadSide", name := "ask", desc := "(IJIIII)I" } : Jvm.MethodName) prog_1_method_12_code (11 : Nat) (Option.some Jvm.ClassFile.FieldType.int)) ∈ lw_tbl := List.mem_of_getElem? (i := 559) (by decide +kernel)
theorem wd_601 : (Jvm.Cond.code ({ cls := "ReadSide", name := "read", desc := "(II)J" } : Jvm.MethodName) prog_1_method_13_code (4 : Nat) (Option.some Jvm.ClassFile.FieldType.long)) ∈ lw_tbl := List.mem_of_getElem? (i := 632) (by decide +kernel)
theorem wd_609 : (Jvm.Cond.code ({ cls := "ReadSide", name := "value", desc := "(III)J" } : Jvm.MethodName) prog_1_method_14_code (4 : Nat) (Option.some Jvm.ClassFile.FieldType.long)) ∈ lw_tbl := List.mem_of_getElem? (i := 640) (by decide +kernel)
theorem wd_616 : (Jvm.Cond.code ({ cls := "ReadSide", name := "at", desc := "(II)I" } : Jvm.MethodName) prog_1_method_15_code (3 : Nat) (Option.some Jvm.ClassFile.FieldType.int)) ∈ lw_tbl := List.mem_of_getElem? (i := 647) (by decide +kernel)
theorem wd_623 : (Jvm.Cond.code ({ cls := "ReadSide", name := "kept", desc := "(II)I" } : Jvm.MethodName) prog_1_method_16_code (3 : Nat) (Option.some Jvm.ClassFile.FieldType.int)) ∈ lw_tbl := List.mem_of_getElem? (i := 654) (by decide +kernel)
theorem wd_630 : (Jvm.Cond.code ({ cls := "ReadSide", name := "log", desc := "(II)I" } : Jvm.MethodName) prog_1_method_17_code (3 : Nat) (Option.some Jvm.ClassFile.FieldType.int)) ∈ lw_tbl := List.mem_of_getElem? (i := 661) (by decide +kernel)
theorem wd_637 : (Jvm.Cond.code ({ cls := "ReadSide", name := "logged", desc := "(III)I" } : Jvm.MethodName) prog_1_method_18_code (5 : Nat) (Option.some Jvm.ClassFile.FieldType.int)) ∈ lw_tbl := List.mem_of_getElem? (i := 668) (by decide +kernel)
theorem wd_645 : (Jvm.Cond.code ({ cls := "ReadSide", name := "session", desc := "(III)I" } : Jvm.MethodName) prog_1_method_19_code (5 : Nat) (Option.some Jvm.ClassFile.FieldType.int)) ∈ lw_tbl := List.mem_of_getElem? (i := 676) (by decide +kernel)
theorem wd_652 : (Jvm.Cond.code ({ cls := "ReadSide", name := "told", desc := "(JI)I" } : Jvm.MethodName) prog_1_method_20_code (4 : Nat) (Option.some Jvm.ClassFile.FieldType.int)) ∈ lw_tbl := List.mem_of_getElem? (i := 683) (by decide +kernel)
theorem wd_659 : (Jvm.Cond.code ({ cls := "ReadSide", name := "count", desc := "(I)I" } : Jvm.MethodName) prog_1_method_21_code (2 : Nat) (Option.some Jvm.ClassFile.FieldType.int)) ∈ lw_tbl := List.mem_of_getElem? (i := 690) (by decide +kernel)
theorem wd_194 : (Jvm.Cond.code ({ cls := "ReadSide", name := "needIndex", desc := "(II)V" } : Jvm.MethodName) prog_1_method_22_code (2 : Nat) (Option.none : Option Jvm.ClassFile.FieldType)) ∈ lw_tbl := List.mem_of_getElem? (i := 225) (by decide +kernel)
theorem wd_265 : (Jvm.Cond.code ({ cls := "ReadSide", name := "needNumber", desc := "(III)V" } : Jvm.MethodName) prog_1_method_23_code (3 : Nat) (Option.none : Option Jvm.ClassFile.FieldType)) ∈ lw_tbl := List.mem_of_getElem? (i := 296) (by decide +kernel)
theorem wd_532 : (Jvm.Cond.code ({ cls := "ReadSide", name := "needQuestion", desc := "(II)V" } : Jvm.MethodName) prog_1_method_24_code (3 : Nat) (Option.none : Option Jvm.ClassFile.FieldType)) ∈ lw_tbl := List.mem_of_getElem? (i := 563) (by decide +kernel)
theorem wd_536 : (Jvm.Cond.code ({ cls := "ReadSide", name := "needToken", desc := "(J)V" } : Jvm.MethodName) prog_1_method_25_code (7 : Nat) (Option.none : Option Jvm.ClassFile.FieldType)) ∈ lw_tbl := List.mem_of_getElem? (i := 567) (by decide +kernel)
theorem wd_325 : (Jvm.Cond.code ({ cls := "ReadSide", name := "checkOf", desc := "(J)J" } : Jvm.MethodName) prog_1_method_26_code (2 : Nat) (Option.some Jvm.ClassFile.FieldType.long)) ∈ lw_tbl := List.mem_of_getElem? (i := 356) (by decide +kernel)
theorem wd_322 : (Jvm.Cond.code ({ cls := "ReadSide", name := "tokenOf", desc := "([I)J" } : Jvm.MethodName) prog_1_method_27_code (4 : Nat) (Option.some Jvm.ClassFile.FieldType.long)) ∈ lw_tbl := List.mem_of_getElem? (i := 353) (by decide +kernel)
theorem wd_296 : (Jvm.Cond.code ({ cls := "ReadSide", name := "positionIn", desc := "(JI)I" } : Jvm.MethodName) prog_1_method_28_code (3 : Nat) (Option.some Jvm.ClassFile.FieldType.int)) ∈ lw_tbl := List.mem_of_getElem? (i := 327) (by decide +kernel)
theorem wd_408 : (Jvm.Cond.code ({ cls := "ReadSide", name := "withPosition", desc := "([III)[I" } : Jvm.MethodName) prog_1_method_29_code (4 : Nat) (Option.some (Jvm.ClassFile.FieldType.array Jvm.ClassFile.FieldType.int))) ∈ lw_tbl := List.mem_of_getElem? (i := 439) (by decide +kernel)
theorem wd_433 : (Jvm.Cond.code ({ cls := "ReadSide", name := "covers", desc := "([I[I)Z" } : Jvm.MethodName) prog_1_method_30_code (3 : Nat) (Option.some Jvm.ClassFile.FieldType.boolean)) ∈ lw_tbl := List.mem_of_getElem? (i := 464) (by decide +kernel)
theorem wd_510 : (Jvm.Cond.code ({ cls := "ReadSide", name := "sum", desc := "([I)I" } : Jvm.MethodName) prog_1_method_31_code (6 : Nat) (Option.some Jvm.ClassFile.FieldType.int)) ∈ lw_tbl := List.mem_of_getElem? (i := 541) (by decide +kernel)
theorem wd_172 : (Jvm.Cond.code ({ cls := "ReadSide", name := "leastKept", desc := "(I)I" } : Jvm.MethodName) prog_1_method_32_code (7 : Nat) (Option.some Jvm.ClassFile.FieldType.int)) ∈ lw_tbl := List.mem_of_getElem? (i := 203) (by decide +kernel)
theorem wd_426 : (Jvm.Cond.code ({ cls := "ReadSide", name := "takeStep", desc := "(II)I" } : Jvm.MethodName) prog_1_method_33_code (5 : Nat) (Option.some Jvm.ClassFile.FieldType.int)) ∈ lw_tbl := List.mem_of_getElem? (i := 457) (by decide +kernel)
theorem wd_473 : (Jvm.Cond.code ({ cls := "ReadSide", name := "takeStepsOfTick", desc := "(I)I" } : Jvm.MethodName) prog_1_method_34_code (8 : Nat) (Option.some Jvm.ClassFile.FieldType.int)) ∈ lw_tbl := List.mem_of_getElem? (i := 504) (by decide +kernel)
theorem wd_593 : (Jvm.Cond.code ({ cls := "ReadSide", name := "firstThatMay", desc := "(LReadSide$Read;)I" } : Jvm.MethodName) prog_1_method_35_code (5 : Nat) (Option.some Jvm.ClassFile.FieldType.int)) ∈ lw_tbl := List.mem_of_getElem? (i := 624) (by decide +kernel)
theorem wd_289 : (Jvm.Cond.code ({ cls := "ReadSide", name := "mayAnswer", desc := "(LReadSide$Replica;LReadSide$Read;)Z" } : Jvm.MethodName) prog_1_method_36_code (4 : Nat) (Option.some Jvm.ClassFile.FieldType.boolean)) ∈ lw_tbl := List.mem_of_getElem? (i := 320) (by decide +kernel)
theorem wd_293 : (Jvm.Cond.code ({ cls := "ReadSide", name := "leastFor", desc := "(LReadSide$Read;I)I" } : Jvm.MethodName) prog_1_method_37_code (5 : Nat) (Option.some Jvm.ClassFile.FieldType.int)) ∈ lw_tbl := List.mem_of_getElem? (i := 324) (by decide +kernel)
theorem wd_285 : (Jvm.Cond.code ({ cls := "ReadSide", name := "lookAtWaiting", desc := "(I)V" } : Jvm.MethodName) prog_1_method_38_code (3 : Nat) (Option.none : Option Jvm.ClassFile.FieldType)) ∈ lw_tbl := List.mem_of_getElem? (i := 316) (by decide +kernel)
theorem wd_477 : (Jvm.Cond.code ({ cls := "ReadSide", name := "failOverdue", desc := "()V" } : Jvm.MethodName) prog_1_method_39_code (2 : Nat) (Option.none : Option Jvm.ClassFile.FieldType)) ∈ lw_tbl := List.mem_of_getElem? (i := 508) (by decide +kernel)
theorem wd_335 : (Jvm.Cond.code ({ cls := "ReadSide", name := "forgetEnded", desc := "()V" } : Jvm.MethodName) prog_1_method_40_code (3 : Nat) (Option.none : Option Jvm.ClassFile.FieldType)) ∈ lw_tbl := List.mem_of_getElem? (i := 366) (by decide +kernel)
theorem wd_303 : (Jvm.Cond.code ({ cls := "ReadSide", name := "answer", desc := "(LReadSide$Read;I)V" } : Jvm.MethodName) prog_1_method_41_code (4 : Nat) (Option.none : Option Jvm.ClassFile.FieldType)) ∈ lw_tbl := List.mem_of_getElem? (i := 334) (by decide +kernel)
theorem wd_481 : (Jvm.Cond.code ({ cls := "ReadSide", name := "fail", desc := "(LReadSide$Read;)V" } : Jvm.MethodName) prog_1_method_42_code (2 : Nat) (Option.none : Option Jvm.ClassFile.FieldType)) ∈ lw_tbl := List.mem_of_getElem? (i := 512) (by decide +kernel)
theorem wd_873 : (Jvm.Cond.code ({ cls := "ReadSideModel", name := "lesser", desc := "(II)I" } : Jvm.MethodName) prog_9_method_2_code (2 : Nat) (Option.some Jvm.ClassFile.FieldType.int)) ∈ lw_tbl := List.mem_of_getElem? (i := 904) (by decide +kernel)
theorem wd_837 : (Jvm.Cond.code ({ cls := "ReadSideModel", name := "greater", desc := "(II)I" } : Jvm.MethodName) prog_9_method_3_code (2 : Nat) (Option.some Jvm.ClassFile.FieldType.int)) ∈ lw_tbl := List.mem_of_getElem? (i := 868) (by decide +kernel)
theorem wd_788 : (Jvm.Cond.code ({ cls := "ReadSideModel", name := "thrown", desc := "()I" } : Jvm.MethodName) prog_9_method_4_code (1 : Nat) (Option.some Jvm.ClassFile.FieldType.int)) ∈ lw_tbl := List.mem_of_getElem? (i := 819) (by decide +kernel)
theorem wd_799 : (Jvm.Cond.code ({ cls := "ReadSideModel", name := "in", desc := "(JJJ)Z" } : Jvm.MethodName) prog_9_method_5_code (6 : Nat) (Option.some Jvm.ClassFile.FieldType.boolean)) ∈ lw_tbl := List.mem_of_getElem? (i := 830) (by decide +kernel)
theorem wd_833 : (Jvm.Cond.code ({ cls := "ReadSideModel", name := "check", desc := "(J)J" } : Jvm.MethodName) prog_9_method_6_code (2 : Nat) (Option.some Jvm.ClassFile.FieldType.long)) ∈ lw_tbl := List.mem_of_getElem? (i := 864) (by decide +kernel)
theorem wd_827 : (Jvm.Cond.code ({ cls := "ReadSideModel", name := "tokenOf", desc := "(III)J" } : Jvm.MethodName) prog_9_method_7_code (5 : Nat) (Option.some Jvm.ClassFile.FieldType.long)) ∈ lw_tbl := List.mem_of_getElem? (i := 858) (by decide +kernel)
theorem wd_928 : (Jvm.Cond.code ({ cls := "ReadSideModel", name := "position", desc := "(JI)I" } : Jvm.MethodName) prog_9_method_8_code (3 : Nat) (Option.some Jvm.ClassFile.FieldType.int)) ∈ lw_tbl := List.mem_of_getElem? (i := 959) (by decide +kernel)
theorem wd_923 : (Jvm.Cond.code ({ cls := "ReadSideModel", name := "isToken", desc := "(J)Z" } : Jvm.MethodName) prog_9_method_9_code (7 : Nat) (Option.some Jvm.ClassFile.FieldType.boolean)) ∈ lw_tbl := List.mem_of_getElem? (i := 954) (by decide +kernel)
theorem wd_795 : (Jvm.Cond.code ({ cls := "ReadSideModel", name := "isSession", desc := "(I)Z" } : Jvm.MethodName) prog_9_method_10_code (1 : Nat) (Option.some Jvm.ClassFile.FieldType.boolean)) ∈ lw_tbl := List.mem_of_getElem? (i := 826) (by decide +kernel)
theorem wd_845 : (Jvm.Cond.code ({ cls := "ReadSideModel", name := "isReplica", desc := "(I)Z" } : Jvm.MethodName) prog_9_method_11_code (2 : Nat) (Option.some Jvm.ClassFile.FieldType.boolean)) ∈ lw_tbl := List.mem_of_getElem? (i := 876) (by decide +kernel)
theorem wd_861 : (Jvm.Cond.code ({ cls := "ReadSideModel", name := "isPart", desc := "(I)Z" } : Jvm.MethodName) prog_9_method_12_code (2 : Nat) (Option.some Jvm.ClassFile.FieldType.boolean)) ∈ lw_tbl := List.mem_of_getElem? (i := 892) (by decide +kernel)
theorem wd_792 : (Jvm.Cond.code ({ cls := "ReadSideModel", name := "mode", desc := "(II)I" } : Jvm.MethodName) prog_9_method_13_code (5 : Nat) (Option.some Jvm.ClassFile.FieldType.int)) ∈ lw_tbl := List.mem_of_getElem? (i := 823) (by decide +kernel)
theorem wd_841 : (Jvm.Cond.code ({ cls := "ReadSideModel", name := "home", desc := "(II)I" } : Jvm.MethodName) prog_9_method_14_code (4 : Nat) (Option.some Jvm.ClassFile.FieldType.int)) ∈ lw_tbl := List.mem_of_getElem? (i := 872) (by decide +kernel)
theorem wd_849 : (Jvm.Cond.code ({ cls := "ReadSideModel", name := "command", desc := "(IIIII)J" } : Jvm.MethodName) prog_9_method_15_code (11 : Nat) (Option.some Jvm.ClassFile.FieldType.long)) ∈ lw_tbl := List.mem_of_getElem? (i := 880) (by decide +kernel)
theorem wd_869 : (Jvm.Cond.code ({ cls := "ReadSideModel", name := "take", desc := "(II)V" } : Jvm.MethodName) prog_9_method_16_code (8 : Nat) (Option.none : Option Jvm.ClassFile.FieldType)) ∈ lw_tbl := List.mem_of_getElem? (i := 900) (by decide +kernel)
theorem wd_812 : (Jvm.Cond.code ({ cls := "ReadSideModel", name := "covers", desc := "([III)Z" } : Jvm.MethodName) prog_9_method_17_code (6 : Nat) (Option.some Jvm.ClassFile.FieldType.boolean)) ∈ lw_tbl := List.mem_of_getElem? (i := 843) (by decide +kernel)
theorem wd_865 : (Jvm.Cond.code ({ cls := "ReadSideModel", name := "advance", desc := "(II)I" } : Jvm.MethodName) prog_9_method_18_code (4 : Nat) (Option.some Jvm.ClassFile.FieldType.int)) ∈ lw_tbl := List.mem_of_getElem? (i := 896) (by decide +kernel)
theorem wd_857 : (Jvm.Cond.code ({ cls := "ReadSideModel", name := "step", desc := "(II)I" } : Jvm.MethodName) prog_9_method_19_code (3 : Nat) (Option.some Jvm.ClassFile.FieldType.int)) ∈ lw_tbl := List.mem_of_getElem? (i := 888) (by decide +kernel)
theorem wd_877 : (Jvm.Cond.code ({ cls := "ReadSideModel", name := "speed", desc := "(II)I" } : Jvm.MethodName) prog_9_method_20_code (4 : Nat) (Option.some Jvm.ClassFile.FieldType.int)) ∈ lw_tbl := List.mem_of_getElem? (i := 908) (by decide +kernel)
theorem wd_887 : (Jvm.Cond.code ({ cls := "ReadSideModel", name := "tick", desc := "()I" } : Jvm.MethodName) prog_9_method_21_code (6 : Nat) (Option.some Jvm.ClassFile.FieldType.int)) ∈ lw_tbl := List.mem_of_getElem? (i := 918) (by decide +kernel)
theorem wd_891 : (Jvm.Cond.code ({ cls := "ReadSideModel", name := "fail", desc := "(I)V" } : Jvm.MethodName) prog_9_method_22_code (2 : Nat) (Option.none : Option Jvm.ClassFile.FieldType)) ∈ lw_tbl := List.mem_of_getElem? (i := 922) (by decide +kernel)
theorem wd_882 : (Jvm.Cond.code ({ cls := "ReadSideModel", name := "ticks", desc := "(I)I" } : Jvm.MethodName) prog_9_method_23_code (4 : Nat) (Option.some Jvm.ClassFile.FieldType.int)) ∈ lw_tbl := List.mem_of_getElem? (i := 913) (by decide +kernel)
theorem wd_895 : (Jvm.Cond.code ({ cls := "ReadSideModel", name := "up", desc := "(IZ)Z" } : Jvm.MethodName) prog_9_method_24_code (4 : Nat) (Option.some Jvm.ClassFile.FieldType.boolean)) ∈ lw_tbl := List.mem_of_getElem? (i := 926) (by decide +kernel)
theorem wd_903 : (Jvm.Cond.code ({ cls := "ReadSideModel", name := "copy", desc := "(II)V" } : Jvm.MethodName) prog_9_method_25_code (4 : Nat) (Option.none : Option Jvm.ClassFile.FieldType)) ∈ lw_tbl := List.mem_of_getElem? (i := 934) (by decide +kernel)
theorem wd_907 : (Jvm.Cond.code ({ cls := "ReadSideModel", name := "sum", desc := "(I)I" } : Jvm.MethodName) prog_9_method_26_code (2 : Nat) (Option.some Jvm.ClassFile.FieldType.int)) ∈ lw_tbl := List.mem_of_getElem? (i := 938) (by decide +kernel)
theorem wd_899 : (Jvm.Cond.code ({ cls := "ReadSideModel", name := "snapshot", desc := "(I)I" } : Jvm.MethodName) prog_9_method_27_code (2 : Nat) (Option.some Jvm.ClassFile.FieldType.int)) ∈ lw_tbl := List.mem_of_getElem? (i := 930) (by decide +kernel)
theorem wd_911 : (Jvm.Cond.code ({ cls := "ReadSideModel", name := "crash", desc := "(I)I" } : Jvm.MethodName) prog_9_method_28_code (3 : Nat) (Option.some Jvm.ClassFile.FieldType.int)) ∈ lw_tbl := List.mem_of_getElem? (i := 942) (by decide +kernel)
theorem wd_915 : (Jvm.Cond.code ({ cls := "ReadSideModel", name := "trim", desc := "()I" } : Jvm.MethodName) prog_9_method_29_code (5 : Nat) (Option.some Jvm.ClassFile.FieldType.int)) ∈ lw_tbl := List.mem_of_getElem? (i := 946) (by decide +kernel)
theorem wd_935 : (Jvm.Cond.code ({ cls := "ReadSideModel", name := "isQuestion", desc := "(II)Z" } : Jvm.MethodName) prog_9_method_30_code (3 : Nat) (Option.some Jvm.ClassFile.FieldType.boolean)) ∈ lw_tbl := List.mem_of_getElem? (i := 966) (by decide +kernel)
theorem wd_820 : (Jvm.Cond.code ({ cls := "ReadSideModel", name := "tell", desc := "(III)J" } : Jvm.MethodName) prog_9_method_31_code (9 : Nat) (Option.some Jvm.ClassFile.FieldType.long)) ∈ lw_tbl := List.mem_of_getElem? (i := 851) (by decide +kernel)
theorem wd_824 : (Jvm.Cond.code ({ cls := "ReadSideModel", name := "ranked", desc := "(II)I" } : Jvm.MethodName) prog_9_method_32_code (8 : Nat) (Option.some Jvm.ClassFile.FieldType.int)) ∈ lw_tbl := List.mem_of_getElem? (i := 855) (by decide +kernel)
theorem wd_808 : (Jvm.Cond.code ({ cls := "ReadSideModel", name := "may", desc := "(II)Z" } : Jvm.MethodName) prog_9_method_33_code (6 : Nat) (Option.some Jvm.ClassFile.FieldType.boolean)) ∈ lw_tbl := List.mem_of_getElem? (i := 839) (by decide +kernel)
theorem wd_816 : (Jvm.Cond.code ({ cls := "ReadSideModel", name := "answer", desc := "(II)V" } : Jvm.MethodName) prog_9_method_34_code (4 : Nat) (Option.none : Option Jvm.ClassFile.FieldType)) ∈ lw_tbl := List.mem_of_getElem? (i := 847) (by decide +kernel)
theorem wd_804 : (Jvm.Cond.code ({ cls := "ReadSideModel", name := "look", desc := "(I)V" } : Jvm.MethodName) prog_9_method_35_code (3 : Nat) (Option.none : Option Jvm.ClassFile.FieldType)) ∈ lw_tbl := List.mem_of_getElem? (i := 835) (by decide +kernel)
theorem wd_939 : (Jvm.Cond.code ({ cls := "ReadSideModel", name := "waiting", desc := "()I" } : Jvm.MethodName) prog_9_method_36_code (3 : Nat) (Option.some Jvm.ClassFile.FieldType.int)) ∈ lw_tbl := List.mem_of_getElem? (i := 970) (by decide +kernel)
theorem wd_919 : (Jvm.Cond.code ({ cls := "ReadSideModel", name := "ask", desc := "(IJIIII)I" } : Jvm.MethodName) prog_9_method_37_code (11 : Nat) (Option.some Jvm.ClassFile.FieldType.int)) ∈ lw_tbl := List.mem_of_getElem? (i := 950) (by decide +kernel)
theorem wd_943 : (Jvm.Cond.code ({ cls := "ReadSideModel", name := "read", desc := "(II)J" } : Jvm.MethodName) prog_9_method_38_code (3 : Nat) (Option.some Jvm.ClassFile.FieldType.long)) ∈ lw_tbl := List.mem_of_getElem? (i := 974) (by decide +kernel)
theorem wd_948 : (Jvm.Cond.code ({ cls := "ReadSideModel", name := "value", desc := "(III)J" } : Jvm.MethodName) prog_9_method_39_code (4 : Nat) (Option.some Jvm.ClassFile.FieldType.long)) ∈ lw_tbl := List.mem_of_getElem? (i := 979) (by decide +kernel)
theorem wd_952 : (Jvm.Cond.code ({ cls := "ReadSideModel", name := "at", desc := "(II)I" } : Jvm.MethodName) prog_9_method_40_code (3 : Nat) (Option.some Jvm.ClassFile.FieldType.int)) ∈ lw_tbl := List.mem_of_getElem? (i := 983) (by decide +kernel)
theorem wd_956 : (Jvm.Cond.code ({ cls := "ReadSideModel", name := "kept", desc := "(II)I" } : Jvm.MethodName) prog_9_method_41_code (3 : Nat) (Option.some Jvm.ClassFile.FieldType.int)) ∈ lw_tbl := List.mem_of_getElem? (i := 987) (by decide +kernel)
theorem wd_960 : (Jvm.Cond.code ({ cls := "ReadSideModel", name := "log", desc := "(II)I" } : Jvm.MethodName) prog_9_method_42_code (3 : Nat) (Option.some Jvm.ClassFile.FieldType.int)) ∈ lw_tbl := List.mem_of_getElem? (i := 991) (by decide +kernel)
theorem wd_964 : (Jvm.Cond.code ({ cls := "ReadSideModel", name := "logged", desc := "(III)I" } : Jvm.MethodName) prog_9_method_43_code (5 : Nat) (Option.some Jvm.ClassFile.FieldType.int)) ∈ lw_tbl := List.mem_of_getElem? (i := 995) (by decide +kernel)
theorem wd_969 : (Jvm.Cond.code ({ cls := "ReadSideModel", name := "session", desc := "(III)I" } : Jvm.MethodName) prog_9_method_44_code (4 : Nat) (Option.some Jvm.ClassFile.FieldType.int)) ∈ lw_tbl := List.mem_of_getElem? (i := 1000) (by decide +kernel)
theorem wd_973 : (Jvm.Cond.code ({ cls := "ReadSideModel", name := "told", desc := "(JI)I" } : Jvm.MethodName) prog_9_method_45_code (4 : Nat) (Option.some Jvm.ClassFile.FieldType.int)) ∈ lw_tbl := List.mem_of_getElem? (i := 1004) (by decide +kernel)
theorem wd_977 : (Jvm.Cond.code ({ cls := "ReadSideModel", name := "count", desc := "(I)I" } : Jvm.MethodName) prog_9_method_46_code (4 : Nat) (Option.some Jvm.ClassFile.FieldType.int)) ∈ lw_tbl := List.mem_of_getElem? (i := 1008) (by decide +kernel)
theorem wd_182 : (Jvm.Cond.code ({ cls := "ReadSideLaw", name := "cell", desc := "([II)I" } : Jvm.MethodName) method_2_code (2 : Nat) (Option.some Jvm.ClassFile.FieldType.int)) ∈ lw_tbl := List.mem_of_getElem? (i := 213) (by decide +kernel)
theorem wd_185 : (Jvm.Cond.codeWith ({ cls := "ReadSideLaw", name := "mode", desc := "(LReadSide;II[J)I" } : Jvm.MethodName) method_3_code (5 : Nat) (Option.some Jvm.ClassFile.FieldType.int) [((0 : Nat), (10 : Nat), (13 : Nat), (13 : Nat)), ((0 : Nat), (10 : Nat), (17 : Nat), (15 : Nat))]) ∈ lw_tbl := List.mem_of_getElem? (i := 216) (by decide +kernel)
theorem wd_338 : (Jvm.Cond.codeWith ({ cls := "ReadSideLaw", name := "home", desc := "(LReadSide;II[J)I" } : Jvm.MethodName) method_4_code (5 : Nat) (Option.some Jvm.ClassFile.FieldType.int) [((0 : Nat), (10 : Nat), (13 : Nat), (13 : Nat))]) ∈ lw_tbl := List.mem_of_getElem? (i := 369) (by decide +kernel)
theorem wd_345 : (Jvm.Cond.codeWith ({ cls := "ReadSideLaw", name := "command", desc := "(LReadSide;IIIII[J)I" } : Jvm.MethodName) method_5_code (8 : Nat) (Option.some Jvm.ClassFile.FieldType.int) [((0 : Nat), (15 : Nat), (18 : Nat), (13 : Nat)), ((0 : Nat), (15 : Nat), (22 : Nat), (15 : Nat)), ((0 : Nat), (15 : Nat), (26 : Nat), (24 : Nat))]) ∈ lw_tbl := List.mem_of_getElem? (i := 376) (by decide +kernel)
theorem wd_418 : (Jvm.Cond.codeWith ({ cls := "ReadSideLaw", name := "step", desc := "(LReadSide;II[J)I" } : Jvm.MethodName) method_6_code (5 : Nat) (Option.some Jvm.ClassFile.FieldType.int) [((0 : Nat), (10 : Nat), (13 : Nat), (13 : Nat))]) ∈ lw_tbl := List.mem_of_getElem? (i := 449) (by decide +kernel)
theorem wd_458 : (Jvm.Cond.codeWith ({ cls := "ReadSideLaw", name := "speed", desc := "(LReadSide;II[J)I" } : Jvm.MethodName) method_7_code (5 : Nat) (Option.some Jvm.ClassFile.FieldType.int) [((0 : Nat), (10 : Nat), (13 : Nat), (13 : Nat)), ((0 : Nat), (10 : Nat), (17 : Nat), (15 : Nat))]) ∈ lw_tbl := List.mem_of_getElem? (i := 489) (by decide +kernel)
theorem wd_465 : (Jvm.Cond.codeWith ({ cls := "ReadSideLaw", name := "ticks", desc := "(LReadSide;I[J)I" } : Jvm.MethodName) method_8_code (4 : Nat) (Option.some Jvm.ClassFile.FieldType.int) [((0 : Nat), (9 : Nat), (12 : Nat), (15 : Nat))]) ∈ lw_tbl := List.mem_of_getElem? (i := 496) (by decide +kernel)
theorem wd_484 : (Jvm.Cond.codeWith ({ cls := "ReadSideLaw", name := "up", desc := "(LReadSide;IZ[J)I" } : Jvm.MethodName) method_9_code (5 : Nat) (Option.some Jvm.ClassFile.FieldType.int) [((0 : Nat), (17 : Nat), (20 : Nat), (13 : Nat))]) ∈ lw_tbl := List.mem_of_getElem? (i := 515) (by decide +kernel)
theorem wd_491 : (Jvm.Cond.codeWith ({ cls := "ReadSideLaw", name := "snapshot", desc := "(LReadSide;I[J)I" } : Jvm.MethodName) method_10_code (4 : Nat) (Option.some Jvm.ClassFile.FieldType.int) [((0 : Nat), (9 : Nat), (12 : Nat), (13 : Nat))]) ∈ lw_tbl := List.mem_of_getElem? (i := 522) (by decide +kernel)
theorem wd_513 : (Jvm.Cond.codeWith ({ cls := "ReadSideLaw", name := "crash", desc := "(LReadSide;I[J)I" } : Jvm.MethodName) method_11_code (4 : Nat) (Option.some Jvm.ClassFile.FieldType.int) [((0 : Nat), (9 : Nat), (12 : Nat), (13 : Nat))]) ∈ lw_tbl := List.mem_of_getElem? (i := 544) (by decide +kernel)
theorem wd_524 : (Jvm.Cond.codeWith ({ cls := "ReadSideLaw", name := "ask", desc := "(LReadSide;IJIIII[J)I" } : Jvm.MethodName) method_12_code (10 : Nat) (Option.some Jvm.ClassFile.FieldType.int) [((0 : Nat), (19 : Nat), (22 : Nat), (13 : Nat)), ((0 : Nat), (19 : Nat), (26 : Nat), (15 : Nat)), ((0 : Nat), (19 : Nat), (30 : Nat), (24 : Nat))]) ∈ lw_tbl := List.mem_of_getElem? (i := 555) (by decide +kernel)
theorem wd_597 : (Jvm.Cond.codeWith ({ cls := "ReadSideLaw", name := "read", desc := "(LReadSide;II[J)I" } : Jvm.MethodName) method_13_code (5 : Nat) (Option.some Jvm.ClassFile.FieldType.int) [((0 : Nat), (9 : Nat), (12 : Nat), (13 : Nat))]) ∈ lw_tbl := List.mem_of_getElem? (i := 628) (by decide +kernel)
theorem wd_605 : (Jvm.Cond.codeWith ({ cls := "ReadSideLaw", name := "value", desc := "(LReadSide;III[J)I" } : Jvm.MethodName) method_14_code (6 : Nat) (Option.some Jvm.ClassFile.FieldType.int) [((0 : Nat), (11 : Nat), (14 : Nat), (13 : Nat))]) ∈ lw_tbl := List.mem_of_getElem? (i := 636) (by decide +kernel)
theorem wd_612 : (Jvm.Cond.codeWith ({ cls := "ReadSideLaw", name := "at", desc := "(LReadSide;II[J)I" } : Jvm.MethodName) method_15_code (5 : Nat) (Option.some Jvm.ClassFile.FieldType.int) [((0 : Nat), (10 : Nat), (13 : Nat), (13 : Nat))]) ∈ lw_tbl := List.mem_of_getElem? (i := 643) (by decide +kernel)
theorem wd_619 : (Jvm.Cond.codeWith ({ cls := "ReadSideLaw", name := "kept", desc := "(LReadSide;II[J)I" } : Jvm.MethodName) method_16_code (5 : Nat) (Option.some Jvm.ClassFile.FieldType.int) [((0 : Nat), (10 : Nat), (13 : Nat), (13 : Nat))]) ∈ lw_tbl := List.mem_of_getElem? (i := 650) (by decide +kernel)
theorem wd_626 : (Jvm.Cond.codeWith ({ cls := "ReadSideLaw", name := "log", desc := "(LReadSide;II[J)I" } : Jvm.MethodName) method_17_code (5 : Nat) (Option.some Jvm.ClassFile.FieldType.int) [((0 : Nat), (10 : Nat), (13 : Nat), (13 : Nat))]) ∈ lw_tbl := List.mem_of_getElem? (i := 657) (by decide +kernel)
theorem wd_633 : (Jvm.Cond.codeWith ({ cls := "ReadSideLaw", name := "logged", desc := "(LReadSide;III[J)I" } : Jvm.MethodName) method_18_code (6 : Nat) (Option.some Jvm.ClassFile.FieldType.int) [((0 : Nat), (12 : Nat), (15 : Nat), (13 : Nat))]) ∈ lw_tbl := List.mem_of_getElem? (i := 664) (by decide +kernel)
theorem wd_641 : (Jvm.Cond.codeWith ({ cls := "ReadSideLaw", name := "session", desc := "(LReadSide;III[J)I" } : Jvm.MethodName) method_19_code (6 : Nat) (Option.some Jvm.ClassFile.FieldType.int) [((0 : Nat), (12 : Nat), (15 : Nat), (13 : Nat))]) ∈ lw_tbl := List.mem_of_getElem? (i := 672) (by decide +kernel)
theorem wd_648 : (Jvm.Cond.codeWith ({ cls := "ReadSideLaw", name := "told", desc := "(LReadSide;JI[J)I" } : Jvm.MethodName) method_20_code (6 : Nat) (Option.some Jvm.ClassFile.FieldType.int) [((0 : Nat), (11 : Nat), (14 : Nat), (13 : Nat)), ((0 : Nat), (11 : Nat), (18 : Nat), (15 : Nat))]) ∈ lw_tbl := List.mem_of_getElem? (i := 679) (by decide +kernel)
theorem wd_655 : (Jvm.Cond.codeWith ({ cls := "ReadSideLaw", name := "count", desc := "(LReadSide;I[J)I" } : Jvm.MethodName) method_21_code (4 : Nat) (Option.some Jvm.ClassFile.FieldType.int) [((0 : Nat), (9 : Nat), (12 : Nat), (13 : Nat))]) ∈ lw_tbl := List.mem_of_getElem? (i := 686) (by decide +kernel)
theorem wd_23 : (Jvm.Cond.instanceMethod ({ cls := "java/lang/Object", name := "<init>", desc := "()V" } : Jvm.MethodName)) ∈ lw_tbl := List.mem_of_getElem? (i := 54) (by decide +kernel)
theorem wd_506 : (Jvm.Cond.native ({ cls := "java/lang/System", name := "arraycopy", desc := "(Ljava/lang/Object;ILjava/lang/Object;II)V" } : Jvm.MethodName)) ∈ lw_tbl := List.mem_of_getElem? (i := 537) (by decide +kernel)
theorem wd_505 : (Jvm.Cond.static ({ cls := "java/lang/System", name := "arraycopy", desc := "(Ljava/lang/Object;ILjava/lang/Object;II)V" } : Jvm.MethodName)) ∈ lw_tbl := List.mem_of_getElem? (i := 536) (by decide +kernel)
theorem wd_15 : (Jvm.Cond.initialized "java/lang/System") ∈ lw_tbl := List.mem_of_getElem? (i := 46) (by decide +kernel)
theorem wd_298 : (Jvm.Cond.static ({ cls := "java/lang/Math", name := "max", desc := "(II)I" } : Jvm.MethodName)) ∈ lw_tbl := List.mem_of_getElem? (i := 329) (by decide +kernel)
theorem wd_174 : (Jvm.Cond.static ({ cls := "java/lang/Math", name := "min", desc := "(II)I" } : Jvm.MethodName)) ∈ lw_tbl := List.mem_of_getElem? (i := 205) (by decide +kernel)
theorem wd_12 : (Jvm.Cond.initialized "java/lang/Math") ∈ lw_tbl := List.mem_of_getElem? (i := 43) (by decide +kernel)
theorem wd_14 : (Jvm.Cond.initialized "ReadSide$Command") ∈ lw_tbl := List.mem_of_getElem? (i := 45) (by decide +kernel)
theorem wd_372 : (Jvm.Cond.instantiable "ReadSide$Command" (5 : Nat)) ∈ lw_tbl := List.mem_of_getElem? (i := 403) (by decide +kernel)
theorem wd_2 : (Jvm.Cond.initialized "ReadSide$Log") ∈ lw_tbl := List.mem_of_getElem? (i := 33) (by decide +kernel)
theorem wd_27 : (Jvm.Cond.instantiable "ReadSide$Log" (3 : Nat)) ∈ lw_tbl := List.mem_of_getElem? (i := 58) (by decide +kernel)
theorem wd_16 : (Jvm.Cond.initialized "ReadSide$Read") ∈ lw_tbl := List.mem_of_getElem? (i := 47) (by decide +kernel)
theorem wd_542 : (Jvm.Cond.instantiable "ReadSide$Read" (11 : Nat)) ∈ lw_tbl := List.mem_of_getElem? (i := 573) (by decide +kernel)
theorem wd_3 : (Jvm.Cond.initialized "ReadSide$Replica") ∈ lw_tbl := List.mem_of_getElem? (i := 34) (by decide +kernel)
theorem wd_48 : (Jvm.Cond.instantiable "ReadSide$Replica" (7 : Nat)) ∈ lw_tbl := List.mem_of_getElem? (i := 79) (by decide +kernel)
theorem wd_5 : (Jvm.Cond.initialized "ReadSide$Session") ∈ lw_tbl := List.mem_of_getElem? (i := 36) (by decide +kernel)
theorem wd_111 : (Jvm.Cond.instantiable "ReadSide$Session" (4 : Nat)) ∈ lw_tbl := List.mem_of_getElem? (i := 142) (by decide +kernel)
theorem wd_4 : (Jvm.Cond.initialized "ReadSide$State") ∈ lw_tbl := List.mem_of_getElem? (i := 35) (by decide +kernel)
theorem wd_54 : (Jvm.Cond.instantiable "ReadSide$State" (7 : Nat)) ∈ lw_tbl := List.mem_of_getElem? (i := 85) (by decide +kernel)
theorem wd_18 : (Jvm.Cond.instantiable "ReadSide" (10 : Nat)) ∈ lw_tbl := List.mem_of_getElem? (i := 49) (by decide +kernel)
theorem wd_661 : (Jvm.Cond.instantiable "ReadSideModel" (39 : Nat)) ∈ lw_tbl := List.mem_of_getElem? (i := 692) (by decide +kernel)
theorem wd_81 : (Jvm.Cond.arrayClass Jvm.ClassFile.FieldType.int) ∈ lw_tbl := List.mem_of_getElem? (i := 112) (by decide +kernel)
theorem wd_82 : (Jvm.Cond.arrayClass Jvm.ClassFile.FieldType.long) ∈ lw_tbl := List.mem_of_getElem? (i := 113) (by decide +kernel)
theorem wd_784 : (Jvm.Cond.arrayClass Jvm.ClassFile.FieldType.boolean) ∈ lw_tbl := List.mem_of_getElem? (i := 815) (by decide +kernel)
theorem wd_33 : (Jvm.Cond.arrayOver (Jvm.ClassFile.FieldType.object "ReadSide$Command")) ∈ lw_tbl := List.mem_of_getElem? (i := 64) (by decide +kernel)
theorem wd_26 : (Jvm.Cond.arrayOver (Jvm.ClassFile.FieldType.object "ReadSide$Log")) ∈ lw_tbl := List.mem_of_getElem? (i := 57) (by decide +kernel)
theorem wd_133 : (Jvm.Cond.arrayOver (Jvm.ClassFile.FieldType.object "ReadSide$Read")) ∈ lw_tbl := List.mem_of_getElem? (i := 164) (by decide +kernel)
theorem wd_47 : (Jvm.Cond.arrayOver (Jvm.ClassFile.FieldType.object "ReadSide$Replica")) ∈ lw_tbl := List.mem_of_getElem? (i := 78) (by decide +kernel)
theorem wd_110 : (Jvm.Cond.arrayOver (Jvm.ClassFile.FieldType.object "ReadSide$Session")) ∈ lw_tbl := List.mem_of_getElem? (i := 141) (by decide +kernel)
theorem wd_410 : (Jvm.Cond.sameMethod "[I" "java/lang/Object" "clone" "()Ljava/lang/Object;") ∈ lw_tbl := List.mem_of_getElem? (i := 441) (by decide +kernel)
theorem wd_411 : (Jvm.Cond.native ({ cls := "java/lang/Object", name := "clone", desc := "()Ljava/lang/Object;" } : Jvm.MethodName)) ∈ lw_tbl := List.mem_of_getElem? (i := 442) (by decide +kernel)
theorem wd_412 : (Jvm.Cond.instanceMethod ({ cls := "java/lang/Object", name := "clone", desc := "()Ljava/lang/Object;" } : Jvm.MethodName)) ∈ lw_tbl := List.mem_of_getElem? (i := 443) (by decide +kernel)
theorem wd_413 : (Jvm.Cond.selects "[I" ({ cls := "[I", name := "clone", desc := "()Ljava/lang/Object;" } : Jvm.MethodName) ({ cls := "java/lang/Object", name := "clone", desc := "()Ljava/lang/Object;" } : Jvm.MethodName)) ∈ lw_tbl := List.mem_of_getElem? (i := 444) (by decide +kernel)
theorem wd_414 : (Jvm.Cond.castable "[I" "java/lang/Cloneable") ∈ lw_tbl := List.mem_of_getElem? (i := 445) (by decide +kernel)
theorem wd_197 : (Jvm.Cond.castable "java/lang/IndexOutOfBoundsException" "java/lang/IndexOutOfBoundsException") ∈ lw_tbl := List.mem_of_getElem? (i := 228) (by decide +kernel)
theorem wd_268 : (Jvm.Cond.castable "java/lang/IllegalArgumentException" "java/lang/IllegalArgumentException") ∈ lw_tbl := List.mem_of_getElem? (i := 299) (by decide +kernel)
theorem wd_353 : (Jvm.Cond.castable "java/lang/IllegalStateException" "java/lang/IllegalStateException") ∈ lw_tbl := List.mem_of_getElem? (i := 384) (by decide +kernel)
theorem wd_186 : (Jvm.Cond.classLink "ReadSideLaw" (13 : Nat) "java/lang/IndexOutOfBoundsException") ∈ lw_tbl := List.mem_of_getElem? (i := 217) (by decide +kernel)
theorem wd_187 : (Jvm.Cond.classLink "ReadSideLaw" (15 : Nat) "java/lang/IllegalArgumentException") ∈ lw_tbl := List.mem_of_getElem? (i := 218) (by decide +kernel)
theorem wd_346 : (Jvm.Cond.classLink "ReadSideLaw" (24 : Nat) "java/lang/IllegalStateException") ∈ lw_tbl := List.mem_of_getElem? (i := 377) (by decide +kernel)
theorem g_oi2 : Cond.code objectInit ⟨#[0xb1]⟩ 1 none ∈ lw_tbl := by decide +kernel
theorem g_mx3 : Cond.code Lib.Math.max.name Lib.Math.max.code 2 (some .int) ∈ lw_tbl := by decide +kernel
theorem g_mn3 : Cond.code Lib.Math.min.name Lib.Math.min.code 2 (some .int) ∈ lw_tbl := by decide +kernel
-- class 0: initialized wd_14 instantiable wd_372
-- class 1: initialized wd_2 instantiable wd_27
-- class 2: initialized wd_16 instantiable wd_542
-- class 3: initialized wd_3 instantiable wd_48
-- class 4: initialized wd_5 instantiable wd_111
-- class 5: initialized wd_4 instantiable wd_54
-- class 6: initialized wd_1 instantiable wd_18
-- class 7: initialized wd_6 instantiable wd_661
end
section
theorem mX0_init : am_mt 0 5 := ⟨Or.inl ⟨wd_375, rfl⟩, by decide +kernel, ⟨by decide +kernel, by decide +kernel⟩, fun sig h => by rw [show parseMethodDescriptor (am_y 0).desc = some (⟨[.int, .int, .int, .int, .array (.int)], none⟩ : MethodDescriptor) from by decide +kernel] at h; cases h; rfl⟩
theorem mX1_init : am_mt 1 0 := ⟨Or.inl ⟨wd_30, rfl⟩, by decide +kernel, ⟨by decide +kernel, by decide +kernel⟩, fun sig h => by rw [show parseMethodDescriptor (am_y 1).desc = some (⟨[], none⟩ : MethodDescriptor) from by decide +kernel] at h; cases h; rfl⟩
theorem mX1_commandAt : am_mt 2 1 := ⟨Or.inl ⟨wd_430, rfl⟩, by decide +kernel, ⟨by decide +kernel, by decide +kernel⟩, fun sig h => by rw [show parseMethodDescriptor (am_y 2).desc = some (⟨[.int], some (.object "ReadSide$Command")⟩ : MethodDescriptor) from by decide +kernel] at h; cases h; rfl⟩
theorem mX1_append : am_mt 3 1 := ⟨Or.inl ⟨wd_405, rfl⟩, by decide +kernel, ⟨by decide +kernel, by decide +kernel⟩, fun sig h => by rw [show parseMethodDescriptor (am_y 3).desc = some (⟨[.object "ReadSide$Command"], none⟩ : MethodDescriptor) from by decide +kernel] at h; cases h; rfl⟩
theorem mX1_dropTo : am_mt 4 1 := ⟨Or.inl ⟨wd_179, rfl⟩, by decide +kernel, ⟨by decide +kernel, by decide +kernel⟩, fun sig h => by rw [show parseMethodDescriptor (am_y 4).desc = some (⟨[.int], some (.int)⟩ : MethodDescriptor) from by decide +kernel] at h; cases h; rfl⟩
theorem mX2_init : am_mt 5 6 := ⟨Or.inl ⟨wd_545, rfl⟩, by decide +kernel, ⟨by decide +kernel, by decide +kernel⟩, fun sig h => by rw [show parseMethodDescriptor (am_y 5).desc = some (⟨[.int, .long, .int, .int, .int, .int], none⟩ : MethodDescriptor) from by decide +kernel] at h; cases h; rfl⟩
theorem mX3_init : am_mt 6 0 := ⟨Or.inl ⟨wd_51, rfl⟩, by decide +kernel, ⟨by decide +kernel, by decide +kernel⟩, fun sig h => by rw [show parseMethodDescriptor (am_y 6).desc = some (⟨[], none⟩ : MethodDescriptor) from by decide +kernel] at h; cases h; rfl⟩
theorem mX3_keep : am_mt 7 0 := ⟨Or.inl ⟨wd_499, rfl⟩, by decide +kernel, ⟨by decide +kernel, by decide +kernel⟩, fun sig h => by rw [show parseMethodDescriptor (am_y 7).desc = some (⟨[], none⟩ : MethodDescriptor) from by decide +kernel] at h; cases h; rfl⟩
theorem mX3_comeAgain : am_mt 8 0 := ⟨Or.inl ⟨wd_521, rfl⟩, by decide +kernel, ⟨by decide +kernel, by decide +kernel⟩, fun sig h => by rw [show parseMethodDescriptor (am_y 8).desc = some (⟨[], none⟩ : MethodDescriptor) from by decide +kernel] at h; cases h; rfl⟩
theorem mX4_init : am_mt 9 0 := ⟨Or.inl ⟨wd_114, rfl⟩, by decide +kernel, ⟨by decide +kernel, by decide +kernel⟩, fun sig h => by rw [show parseMethodDescriptor (am_y 9).desc = some (⟨[], none⟩ : MethodDescriptor) from by decide +kernel] at h; cases h; rfl⟩
theorem mX4_needsNow : am_mt 10 0 := ⟨Or.inl ⟨wd_370, rfl⟩, by decide +kernel, ⟨by decide +kernel, by decide +kernel⟩, fun sig h => by rw [show parseMethodDescriptor (am_y 10).desc = some (⟨[], some (.array (.int))⟩ : MethodDescriptor) from by decide +kernel] at h; cases h; rfl⟩
theorem mX4_see : am_mt 11 1 := ⟨Or.inl ⟨wd_330, rfl⟩, by decide +kernel, ⟨by decide +kernel, by decide +kernel⟩, fun sig h => by rw [show parseMethodDescriptor (am_y 11).desc = some (⟨[.array (.int)], none⟩ : MethodDescriptor) from by decide +kernel] at h; cases h; rfl⟩
theorem mX5_init : am_mt 12 0 := ⟨Or.inl ⟨wd_57, rfl⟩, by decide +kernel, ⟨by decide +kernel, by decide +kernel⟩, fun sig h => by rw [show parseMethodDescriptor (am_y 12).desc = some (⟨[], none⟩ : MethodDescriptor) from by decide +kernel] at h; cases h; rfl⟩
theorem mX5_becomeLike : am_mt 13 1 := ⟨Or.inl ⟨wd_503, rfl⟩, by decide +kernel, ⟨by decide +kernel, by decide +kernel⟩, fun sig h => by rw [show parseMethodDescriptor (am_y 13).desc = some (⟨[.object "ReadSide$State"], none⟩ : MethodDescriptor) from by decide +kernel] at h; cases h; rfl⟩
theorem mX5_take : am_mt 14 1 := ⟨Or.inl ⟨wd_437, rfl⟩, by decide +kernel, ⟨by decide +kernel, by decide +kernel⟩, fun sig h => by rw [show parseMethodDescriptor (am_y 14).desc = some (⟨[.object "ReadSide$Command"], none⟩ : MethodDescriptor) from by decide +kernel] at h; cases h; rfl⟩
theorem mX5_receive : am_mt 15 2 := ⟨Or.inl ⟨wd_441, rfl⟩, by decide +kernel, ⟨by decide +kernel, by decide +kernel⟩, fun sig h => by rw [show parseMethodDescriptor (am_y 15).desc = some (⟨[.int, .int], none⟩ : MethodDescriptor) from by decide +kernel] at h; cases h; rfl⟩
theorem mX5_reserve : am_mt 16 3 := ⟨Or.inl ⟨wd_446, rfl⟩, by decide +kernel, ⟨by decide +kernel, by decide +kernel⟩, fun sig h => by rw [show parseMethodDescriptor (am_y 16).desc = some (⟨[.int, .int, .int], none⟩ : MethodDescriptor) from by decide +kernel] at h; cases h; rfl⟩
theorem mX5_ship : am_mt 17 3 := ⟨Or.inl ⟨wd_450, rfl⟩, by decide +kernel, ⟨by decide +kernel, by decide +kernel⟩, fun sig h => by rw [show parseMethodDescriptor (am_y 17).desc = some (⟨[.int, .int, .int], none⟩ : MethodDescriptor) from by decide +kernel] at h; cases h; rfl⟩
theorem mX5_release : am_mt 18 3 := ⟨Or.inl ⟨wd_454, rfl⟩, by decide +kernel, ⟨by decide +kernel, by decide +kernel⟩, fun sig h => by rw [show parseMethodDescriptor (am_y 18).desc = some (⟨[.int, .int, .int], none⟩ : MethodDescriptor) from by decide +kernel] at h; cases h; rfl⟩
theorem mX5_answerTo : am_mt 19 3 := ⟨Or.inl ⟨wd_307, rfl⟩, by decide +kernel, ⟨by decide +kernel, by decide +kernel⟩, fun sig h => by rw [show parseMethodDescriptor (am_y 19).desc = some (⟨[.int, .int, .int], some (.long)⟩ : MethodDescriptor) from by decide +kernel] at h; cases h; rfl⟩
theorem mX5_heldBy : am_mt 20 1 := ⟨Or.inl ⟨wd_311, rfl⟩, by decide +kernel, ⟨by decide +kernel, by decide +kernel⟩, fun sig h => by rw [show parseMethodDescriptor (am_y 20).desc = some (⟨[.int], some (.long)⟩ : MethodDescriptor) from by decide +kernel] at h; cases h; rfl⟩
theorem mX5_itemRanked : am_mt 21 1 := ⟨Or.inl ⟨wd_315, rfl⟩, by decide +kernel, ⟨by decide +kernel, by decide +kernel⟩, fun sig h => by rw [show parseMethodDescriptor (am_y 21).desc = some (⟨[.int], some (.int)⟩ : MethodDescriptor) from by decide +kernel] at h; cases h; rfl⟩
theorem mX5_worth : am_mt 22 2 := ⟨Or.inl ⟨wd_319, rfl⟩, by decide +kernel, ⟨by decide +kernel, by decide +kernel⟩, fun sig h => by rw [show parseMethodDescriptor (am_y 22).desc = some (⟨[.int, .int], some (.long)⟩ : MethodDescriptor) from by decide +kernel] at h; cases h; rfl⟩
theorem mX6_init : am_mt 23 2 := ⟨Or.inl ⟨wd_21, rfl⟩, by decide +kernel, ⟨by decide +kernel, by decide +kernel⟩, fun sig h => by rw [show parseMethodDescriptor (am_y 23).desc = some (⟨[.int, .int], none⟩ : MethodDescriptor) from by decide +kernel] at h; cases h; rfl⟩
theorem mX6_mode : am_mt 24 2 := ⟨Or.inl ⟨wd_191, rfl⟩, by decide +kernel, ⟨by decide +kernel, by decide +kernel⟩, fun sig h => by rw [show parseMethodDescriptor (am_y 24).desc = some (⟨[.int, .int], some (.int)⟩ : MethodDescriptor) from by decide +kernel] at h; cases h; rfl⟩
theorem mX6_home : am_mt 25 2 := ⟨Or.inl ⟨wd_342, rfl⟩, by decide +kernel, ⟨by decide +kernel, by decide +kernel⟩, fun sig h => by rw [show parseMethodDescriptor (am_y 25).desc = some (⟨[.int, .int], some (.int)⟩ : MethodDescriptor) from by decide +kernel] at h; cases h; rfl⟩
theorem mX6_command : am_mt 26 5 := ⟨Or.inl ⟨wd_350, rfl⟩, by decide +kernel, ⟨by decide +kernel, by decide +kernel⟩, fun sig h => by rw [show parseMethodDescriptor (am_y 26).desc = some (⟨[.int, .int, .int, .int, .int], some (.long)⟩ : MethodDescriptor) from by decide +kernel] at h; cases h; rfl⟩
theorem mX6_step : am_mt 27 2 := ⟨Or.inl ⟨wd_422, rfl⟩, by decide +kernel, ⟨by decide +kernel, by decide +kernel⟩, fun sig h => by rw [show parseMethodDescriptor (am_y 27).desc = some (⟨[.int, .int], some (.int)⟩ : MethodDescriptor) from by decide +kernel] at h; cases h; rfl⟩
theorem mX6_speed : am_mt 28 2 := ⟨Or.inl ⟨wd_462, rfl⟩, by decide +kernel, ⟨by decide +kernel, by decide +kernel⟩, fun sig h => by rw [show parseMethodDescriptor (am_y 28).desc = some (⟨[.int, .int], some (.int)⟩ : MethodDescriptor) from by decide +kernel] at h; cases h; rfl⟩
theorem mX6_ticks : am_mt 29 1 := ⟨Or.inl ⟨wd_469, rfl⟩, by decide +kernel, ⟨by decide +kernel, by decide +kernel⟩, fun sig h => by rw [show parseMethodDescriptor (am_y 29).desc = some (⟨[.int], some (.int)⟩ : MethodDescriptor) from by decide +kernel] at h; cases h; rfl⟩
theorem mX6_up : am_mt 30 2 := ⟨Or.inl ⟨wd_488, rfl⟩, by decide +kernel, ⟨by decide +kernel, by decide +kernel⟩, fun sig h => by rw [show parseMethodDescriptor (am_y 30).desc = some (⟨[.int, .boolean], some (.boolean)⟩ : MethodDescriptor) from by decide +kernel] at h; cases h; rfl⟩
theorem mX6_snapshot : am_mt 31 1 := ⟨Or.inl ⟨wd_495, rfl⟩, by decide +kernel, ⟨by decide +kernel, by decide +kernel⟩, fun sig h => by rw [show parseMethodDescriptor (am_y 31).desc = some (⟨[.int], some (.int)⟩ : MethodDescriptor) from by decide +kernel] at h; cases h; rfl⟩
theorem mX6_crash : am_mt 32 1 := ⟨Or.inl ⟨wd_517, rfl⟩, by decide +kernel, ⟨by decide +kernel, by decide +kernel⟩, fun sig h => by rw [show parseMethodDescriptor (am_y 32).desc = some (⟨[.int], some (.int)⟩ : MethodDescriptor) from by decide +kernel] at h; cases h; rfl⟩
theorem mX6_trim : am_mt 33 0 := ⟨Or.inl ⟨wd_168, rfl⟩, by decide +kernel, ⟨by decide +kernel, by decide +kernel⟩, fun sig h => by rw [show parseMethodDescriptor (am_y 33).desc = some (⟨[], some (.int)⟩ : MethodDescriptor) from by decide +kernel] at h; cases h; rfl⟩
theorem mX6_ask : am_mt 34 6 := ⟨Or.inl ⟨wd_528, rfl⟩, by decide +kernel, ⟨by decide +kernel, by decide +kernel⟩, fun sig h => by rw [show parseMethodDescriptor (am_y 34).desc = some (⟨[.int, .long, .int, .int, .int, .int], some (.int)⟩ : MethodDescriptor) from by decide +kernel] at h; cases h; rfl⟩
theorem mX6_read : am_mt 35 2 := ⟨Or.inl ⟨wd_601, rfl⟩, by decide +kernel, ⟨by decide +kernel, by decide +kernel⟩, fun sig h => by rw [show parseMethodDescriptor (am_y 35).desc = some (⟨[.int, .int], some (.long)⟩ : MethodDescriptor) from by decide +kernel] at h; cases h; rfl⟩
theorem mX6_value : am_mt 36 3 := ⟨Or.inl ⟨wd_609, rfl⟩, by decide +kernel, ⟨by decide +kernel, by decide +kernel⟩, fun sig h => by rw [show parseMethodDescriptor (am_y 36).desc = some (⟨[.int, .int, .int], some (.long)⟩ : MethodDescriptor) from by decide +kernel] at h; cases h; rfl⟩
theorem mX6_at : am_mt 37 2 := ⟨Or.inl ⟨wd_616, rfl⟩, by decide +kernel, ⟨by decide +kernel, by decide +kernel⟩, fun sig h => by rw [show parseMethodDescriptor (am_y 37).desc = some (⟨[.int, .int], some (.int)⟩ : MethodDescriptor) from by decide +kernel] at h; cases h; rfl⟩
theorem mX6_kept : am_mt 38 2 := ⟨Or.inl ⟨wd_623, rfl⟩, by decide +kernel, ⟨by decide +kernel, by decide +kernel⟩, fun sig h => by rw [show parseMethodDescriptor (am_y 38).desc = some (⟨[.int, .int], some (.int)⟩ : MethodDescriptor) from by decide +kernel] at h; cases h; rfl⟩
theorem mX6_log : am_mt 39 2 := ⟨Or.inl ⟨wd_630, rfl⟩, by decide +kernel, ⟨by decide +kernel, by decide +kernel⟩, fun sig h => by rw [show parseMethodDescriptor (am_y 39).desc = some (⟨[.int, .int], some (.int)⟩ : MethodDescriptor) from by decide +kernel] at h; cases h; rfl⟩
theorem mX6_logged : am_mt 40 3 := ⟨Or.inl ⟨wd_637, rfl⟩, by decide +kernel, ⟨by decide +kernel, by decide +kernel⟩, fun sig h => by rw [show parseMethodDescriptor (am_y 40).desc = some (⟨[.int, .int, .int], some (.int)⟩ : MethodDescriptor) from by decide +kernel] at h; cases h; rfl⟩
theorem mX6_session : am_mt 41 3 := ⟨Or.inl ⟨wd_645, rfl⟩, by decide +kernel, ⟨by decide +kernel, by decide +kernel⟩, fun sig h => by rw [show parseMethodDescriptor (am_y 41).desc = some (⟨[.int, .int, .int], some (.int)⟩ : MethodDescriptor) from by decide +kernel] at h; cases h; rfl⟩
theorem mX6_told : am_mt 42 2 := ⟨Or.inl ⟨wd_652, rfl⟩, by decide +kernel, ⟨by decide +kernel, by decide +kernel⟩, fun sig h => by rw [show parseMethodDescriptor (am_y 42).desc = some (⟨[.long, .int], some (.int)⟩ : MethodDescriptor) from by decide +kernel] at h; cases h; rfl⟩
theorem mX6_count : am_mt 43 1 := ⟨Or.inl ⟨wd_659, rfl⟩, by decide +kernel, ⟨by decide +kernel, by decide +kernel⟩, fun sig h => by rw [show parseMethodDescriptor (am_y 43).desc = some (⟨[.int], some (.int)⟩ : MethodDescriptor) from by decide +kernel] at h; cases h; rfl⟩
theorem mX6_needIndex : am_mt 44 2 := ⟨Or.inl ⟨wd_194, rfl⟩, by decide +kernel, ⟨by decide +kernel, by decide +kernel⟩, fun sig h => by rw [show parseMethodDescriptor (am_y 44).desc = some (⟨[.int, .int], none⟩ : MethodDescriptor) from by decide +kernel] at h; cases h; rfl⟩
theorem mX6_needNumber : am_mt 45 3 := ⟨Or.inl ⟨wd_265, rfl⟩, by decide +kernel, ⟨by decide +kernel, by decide +kernel⟩, fun sig h => by rw [show parseMethodDescriptor (am_y 45).desc = some (⟨[.int, .int, .int], none⟩ : MethodDescriptor) from by decide +kernel] at h; cases h; rfl⟩
theorem mX6_needQuestion : am_mt 46 2 := ⟨Or.inl ⟨wd_532, rfl⟩, by decide +kernel, ⟨by decide +kernel, by decide +kernel⟩, fun sig h => by rw [show parseMethodDescriptor (am_y 46).desc = some (⟨[.int, .int], none⟩ : MethodDescriptor) from by decide +kernel] at h; cases h; rfl⟩
theorem mX6_needToken : am_mt 47 1 := ⟨Or.inl ⟨wd_536, rfl⟩, by decide +kernel, ⟨by decide +kernel, by decide +kernel⟩, fun sig h => by rw [show parseMethodDescriptor (am_y 47).desc = some (⟨[.long], none⟩ : MethodDescriptor) from by decide +kernel] at h; cases h; rfl⟩
theorem mX6_checkOf : am_mt 48 1 := ⟨Or.inl ⟨wd_325, rfl⟩, by decide +kernel, ⟨by decide +kernel, by decide +kernel⟩, fun sig h => by rw [show parseMethodDescriptor (am_y 48).desc = some (⟨[.long], some (.long)⟩ : MethodDescriptor) from by decide +kernel] at h; cases h; rfl⟩
theorem mX6_tokenOf : am_mt 49 1 := ⟨Or.inl ⟨wd_322, rfl⟩, by decide +kernel, ⟨by decide +kernel, by decide +kernel⟩, fun sig h => by rw [show parseMethodDescriptor (am_y 49).desc = some (⟨[.array (.int)], some (.long)⟩ : MethodDescriptor) from by decide +kernel] at h; cases h; rfl⟩
theorem mX6_positionIn : am_mt 50 2 := ⟨Or.inl ⟨wd_296, rfl⟩, by decide +kernel, ⟨by decide +kernel, by decide +kernel⟩, fun sig h => by rw [show parseMethodDescriptor (am_y 50).desc = some (⟨[.long, .int], some (.int)⟩ : MethodDescriptor) from by decide +kernel] at h; cases h; rfl⟩
theorem mX6_withPosition : am_mt 51 3 := ⟨Or.inl ⟨wd_408, rfl⟩, by decide +kernel, ⟨by decide +kernel, by decide +kernel⟩, fun sig h => by rw [show parseMethodDescriptor (am_y 51).desc = some (⟨[.array (.int), .int, .int], some (.array (.int))⟩ : MethodDescriptor) from by decide +kernel] at h; cases h; rfl⟩
theorem mX6_covers : am_mt 52 2 := ⟨Or.inl ⟨wd_433, rfl⟩, by decide +kernel, ⟨by decide +kernel, by decide +kernel⟩, fun sig h => by rw [show parseMethodDescriptor (am_y 52).desc = some (⟨[.array (.int), .array (.int)], some (.boolean)⟩ : MethodDescriptor) from by decide +kernel] at h; cases h; rfl⟩
theorem mX6_sum : am_mt 53 1 := ⟨Or.inl ⟨wd_510, rfl⟩, by decide +kernel, ⟨by decide +kernel, by decide +kernel⟩, fun sig h => by rw [show parseMethodDescriptor (am_y 53).desc = some (⟨[.array (.int)], some (.int)⟩ : MethodDescriptor) from by decide +kernel] at h; cases h; rfl⟩
theorem mX6_leastKept : am_mt 54 1 := ⟨Or.inl ⟨wd_172, rfl⟩, by decide +kernel, ⟨by decide +kernel, by decide +kernel⟩, fun sig h => by rw [show parseMethodDescriptor (am_y 54).desc = some (⟨[.int], some (.int)⟩ : MethodDescriptor) from by decide +kernel] at h; cases h; rfl⟩
theorem mX6_takeStep : am_mt 55 2 := ⟨Or.inl ⟨wd_426, rfl⟩, by decide +kernel, ⟨by decide +kernel, by decide +kernel⟩, fun sig h => by rw [show parseMethodDescriptor (am_y 55).desc = some (⟨[.int, .int], some (.int)⟩ : MethodDescriptor) from by decide +kernel] at h; cases h; rfl⟩
theorem mX6_takeStepsOfTick : am_mt 56 1 := ⟨Or.inl ⟨wd_473, rfl⟩, by decide +kernel, ⟨by decide +kernel, by decide +kernel⟩, fun sig h => by rw [show parseMethodDescriptor (am_y 56).desc = some (⟨[.int], some (.int)⟩ : MethodDescriptor) from by decide +kernel] at h; cases h; rfl⟩
theorem mX6_firstThatMay : am_mt 57 1 := ⟨Or.inl ⟨wd_593, rfl⟩, by decide +kernel, ⟨by decide +kernel, by decide +kernel⟩, fun sig h => by rw [show parseMethodDescriptor (am_y 57).desc = some (⟨[.object "ReadSide$Read"], some (.int)⟩ : MethodDescriptor) from by decide +kernel] at h; cases h; rfl⟩
theorem mX6_mayAnswer : am_mt 58 2 := ⟨Or.inl ⟨wd_289, rfl⟩, by decide +kernel, ⟨by decide +kernel, by decide +kernel⟩, fun sig h => by rw [show parseMethodDescriptor (am_y 58).desc = some (⟨[.object "ReadSide$Replica", .object "ReadSide$Read"], some (.boolean)⟩ : MethodDescriptor) from by decide +kernel] at h; cases h; rfl⟩
theorem mX6_leastFor : am_mt 59 2 := ⟨Or.inl ⟨wd_293, rfl⟩, by decide +kernel, ⟨by decide +kernel, by decide +kernel⟩, fun sig h => by rw [show parseMethodDescriptor (am_y 59).desc = some (⟨[.object "ReadSide$Read", .int], some (.int)⟩ : MethodDescriptor) from by decide +kernel] at h; cases h; rfl⟩
theorem mX6_lookAtWaiting : am_mt 60 1 := ⟨Or.inl ⟨wd_285, rfl⟩, by decide +kernel, ⟨by decide +kernel, by decide +kernel⟩, fun sig h => by rw [show parseMethodDescriptor (am_y 60).desc = some (⟨[.int], none⟩ : MethodDescriptor) from by decide +kernel] at h; cases h; rfl⟩
theorem mX6_failOverdue : am_mt 61 0 := ⟨Or.inl ⟨wd_477, rfl⟩, by decide +kernel, ⟨by decide +kernel, by decide +kernel⟩, fun sig h => by rw [show parseMethodDescriptor (am_y 61).desc = some (⟨[], none⟩ : MethodDescriptor) from by decide +kernel] at h; cases h; rfl⟩
theorem mX6_forgetEnded : am_mt 62 0 := ⟨Or.inl ⟨wd_335, rfl⟩, by decide +kernel, ⟨by decide +kernel, by decide +kernel⟩, fun sig h => by rw [show parseMethodDescriptor (am_y 62).desc = some (⟨[], none⟩ : MethodDescriptor) from by decide +kernel] at h; cases h; rfl⟩
theorem mX6_answer : am_mt 63 2 := ⟨Or.inl ⟨wd_303, rfl⟩, by decide +kernel, ⟨by decide +kernel, by decide +kernel⟩, fun sig h => by rw [show parseMethodDescriptor (am_y 63).desc = some (⟨[.object "ReadSide$Read", .int], none⟩ : MethodDescriptor) from by decide +kernel] at h; cases h; rfl⟩
theorem mX6_fail : am_mt 64 1 := ⟨Or.inl ⟨wd_481, rfl⟩, by decide +kernel, ⟨by decide +kernel, by decide +kernel⟩, fun sig h => by rw [show parseMethodDescriptor (am_y 64).desc = some (⟨[.object "ReadSide$Read"], none⟩ : MethodDescriptor) from by decide +kernel] at h; cases h; rfl⟩
theorem mX7_init : am_mt 65 2 := ⟨Or.inl ⟨wd_664, rfl⟩, by decide +kernel, ⟨by decide +kernel, by decide +kernel⟩, fun sig h => by rw [show parseMethodDescriptor (am_y 65).desc = some (⟨[.int, .int], none⟩ : MethodDescriptor) from by decide +kernel] at h; cases h; rfl⟩
theorem mX7_lesser : am_mt 66 2 := ⟨Or.inl ⟨wd_873, rfl⟩, by decide +kernel, ⟨by decide +kernel, by decide +kernel⟩, fun sig h => by rw [show parseMethodDescriptor (am_y 66).desc = some (⟨[.int, .int], some (.int)⟩ : MethodDescriptor) from by decide +kernel] at h; cases h; rfl⟩
theorem mX7_greater : am_mt 67 2 := ⟨Or.inl ⟨wd_837, rfl⟩, by decide +kernel, ⟨by decide +kernel, by decide +kernel⟩, fun sig h => by rw [show parseMethodDescriptor (am_y 67).desc = some (⟨[.int, .int], some (.int)⟩ : MethodDescriptor) from by decide +kernel] at h; cases h; rfl⟩
theorem mX7_thrown : am_mt 68 0 := ⟨Or.inl ⟨wd_788, rfl⟩, by decide +kernel, ⟨by decide +kernel, by decide +kernel⟩, fun sig h => by rw [show parseMethodDescriptor (am_y 68).desc = some (⟨[], some (.int)⟩ : MethodDescriptor) from by decide +kernel] at h; cases h; rfl⟩
theorem mX7_in : am_mt 69 3 := ⟨Or.inl ⟨wd_799, rfl⟩, by decide +kernel, ⟨by decide +kernel, by decide +kernel⟩, fun sig h => by rw [show parseMethodDescriptor (am_y 69).desc = some (⟨[.long, .long, .long], some (.boolean)⟩ : MethodDescriptor) from by decide +kernel] at h; cases h; rfl⟩
theorem mX7_check : am_mt 70 1 := ⟨Or.inl ⟨wd_833, rfl⟩, by decide +kernel, ⟨by decide +kernel, by decide +kernel⟩, fun sig h => by rw [show parseMethodDescriptor (am_y 70).desc = some (⟨[.long], some (.long)⟩ : MethodDescriptor) from by decide +kernel] at h; cases h; rfl⟩
theorem mX7_tokenOf : am_mt 71 3 := ⟨Or.inl ⟨wd_827, rfl⟩, by decide +kernel, ⟨by decide +kernel, by decide +kernel⟩, fun sig h => by rw [show parseMethodDescriptor (am_y 71).desc = some (⟨[.int, .int, .int], some (.long)⟩ : MethodDescriptor) from by decide +kernel] at h; cases h; rfl⟩
theorem mX7_position : am_mt 72 2 := ⟨Or.inl ⟨wd_928, rfl⟩, by decide +kernel, ⟨by decide +kernel, by decide +kernel⟩, fun sig h => by rw [show parseMethodDescriptor (am_y 72).desc = some (⟨[.long, .int], some (.int)⟩ : MethodDescriptor) from by decide +kernel] at h; cases h; rfl⟩
theorem mX7_isToken : am_mt 73 1 := ⟨Or.inl ⟨wd_923, rfl⟩, by decide +kernel, ⟨by decide +kernel, by decide +kernel⟩, fun sig h => by rw [show parseMethodDescriptor (am_y 73).desc = some (⟨[.long], some (.boolean)⟩ : MethodDescriptor) from by decide +kernel] at h; cases h; rfl⟩
theorem mX7_isSession : am_mt 74 1 := ⟨Or.inl ⟨wd_795, rfl⟩, by decide +kernel, ⟨by decide +kernel, by decide +kernel⟩, fun sig h => by rw [show parseMethodDescriptor (am_y 74).desc = some (⟨[.int], some (.boolean)⟩ : MethodDescriptor) from by decide +kernel] at h; cases h; rfl⟩
theorem mX7_isReplica : am_mt 75 1 := ⟨Or.inl ⟨wd_845, rfl⟩, by decide +kernel, ⟨by decide +kernel, by decide +kernel⟩, fun sig h => by rw [show parseMethodDescriptor (am_y 75).desc = some (⟨[.int], some (.boolean)⟩ : MethodDescriptor) from by decide +kernel] at h; cases h; rfl⟩
theorem mX7_isPart : am_mt 76 1 := ⟨Or.inl ⟨wd_861, rfl⟩, by decide +kernel, ⟨by decide +kernel, by decide +kernel⟩, fun sig h => by rw [show parseMethodDescriptor (am_y 76).desc = some (⟨[.int], some (.boolean)⟩ : MethodDescriptor) from by decide +kernel] at h; cases h; rfl⟩
theorem mX7_mode : am_mt 77 2 := ⟨Or.inl ⟨wd_792, rfl⟩, by decide +kernel, ⟨by decide +kernel, by decide +kernel⟩, fun sig h => by rw [show parseMethodDescriptor (am_y 77).desc = some (⟨[.int, .int], some (.int)⟩ : MethodDescriptor) from by decide +kernel] at h; cases h; rfl⟩
theorem mX7_home : am_mt 78 2 := ⟨Or.inl ⟨wd_841, rfl⟩, by decide +kernel, ⟨by decide +kernel, by decide +kernel⟩, fun sig h => by rw [show parseMethodDescriptor (am_y 78).desc = some (⟨[.int, .int], some (.int)⟩ : MethodDescriptor) from by decide +kernel] at h; cases h; rfl⟩
theorem mX7_command : am_mt 79 5 := ⟨Or.inl ⟨wd_849, rfl⟩, by decide +kernel, ⟨by decide +kernel, by decide +kernel⟩, fun sig h => by rw [show parseMethodDescriptor (am_y 79).desc = some (⟨[.int, .int, .int, .int, .int], some (.long)⟩ : MethodDescriptor) from by decide +kernel] at h; cases h; rfl⟩
theorem mX7_take : am_mt 80 2 := ⟨Or.inl ⟨wd_869, rfl⟩, by decide +kernel, ⟨by decide +kernel, by decide +kernel⟩, fun sig h => by rw [show parseMethodDescriptor (am_y 80).desc = some (⟨[.int, .int], none⟩ : MethodDescriptor) from by decide +kernel] at h; cases h; rfl⟩
theorem mX7_covers : am_mt 81 3 := ⟨Or.inl ⟨wd_812, rfl⟩, by decide +kernel, ⟨by decide +kernel, by decide +kernel⟩, fun sig h => by rw [show parseMethodDescriptor (am_y 81).desc = some (⟨[.array (.int), .int, .int], some (.boolean)⟩ : MethodDescriptor) from by decide +kernel] at h; cases h; rfl⟩
theorem mX7_advance : am_mt 82 2 := ⟨Or.inl ⟨wd_865, rfl⟩, by decide +kernel, ⟨by decide +kernel, by decide +kernel⟩, fun sig h => by rw [show parseMethodDescriptor (am_y 82).desc = some (⟨[.int, .int], some (.int)⟩ : MethodDescriptor) from by decide +kernel] at h; cases h; rfl⟩
theorem mX7_step : am_mt 83 2 := ⟨Or.inl ⟨wd_857, rfl⟩, by decide +kernel, ⟨by decide +kernel, by decide +kernel⟩, fun sig h => by rw [show parseMethodDescriptor (am_y 83).desc = some (⟨[.int, .int], some (.int)⟩ : MethodDescriptor) from by decide +kernel] at h; cases h; rfl⟩
theorem mX7_speed : am_mt 84 2 := ⟨Or.inl ⟨wd_877, rfl⟩, by decide +kernel, ⟨by decide +kernel, by decide +kernel⟩, fun sig h => by rw [show parseMethodDescriptor (am_y 84).desc = some (⟨[.int, .int], some (.int)⟩ : MethodDescriptor) from by decide +kernel] at h; cases h; rfl⟩
theorem mX7_tick : am_mt 85 0 := ⟨Or.inl ⟨wd_887, rfl⟩, by decide +kernel, ⟨by decide +kernel, by decide +kernel⟩, fun sig h => by rw [show parseMethodDescriptor (am_y 85).desc = some (⟨[], some (.int)⟩ : MethodDescriptor) from by decide +kernel] at h; cases h; rfl⟩
theorem mX7_fail : am_mt 86 1 := ⟨Or.inl ⟨wd_891, rfl⟩, by decide +kernel, ⟨by decide +kernel, by decide +kernel⟩, fun sig h => by rw [show parseMethodDescriptor (am_y 86).desc = some (⟨[.int], none⟩ : MethodDescriptor) from by decide +kernel] at h; cases h; rfl⟩
theorem mX7_ticks : am_mt 87 1 := ⟨Or.inl ⟨wd_882, rfl⟩, by decide +kernel, ⟨by decide +kernel, by decide +kernel⟩, fun sig h => by rw [show parseMethodDescriptor (am_y 87).desc = some (⟨[.int], some (.int)⟩ : MethodDescriptor) from by decide +kernel] at h; cases h; rfl⟩
theorem mX7_up : am_mt 88 2 := ⟨Or.inl ⟨wd_895, rfl⟩, by decide +kernel, ⟨by decide +kernel, by decide +kernel⟩, fun sig h => by rw [show parseMethodDescriptor (am_y 88).desc = some (⟨[.int, .boolean], some (.boolean)⟩ : MethodDescriptor) from by decide +kernel] at h; cases h; rfl⟩
theorem mX7_copy : am_mt 89 2 := ⟨Or.inl ⟨wd_903, rfl⟩, by decide +kernel, ⟨by decide +kernel, by decide +kernel⟩, fun sig h => by rw [show parseMethodDescriptor (am_y 89).desc = some (⟨[.int, .int], none⟩ : MethodDescriptor) from by decide +kernel] at h; cases h; rfl⟩
theorem mX7_sum : am_mt 90 1 := ⟨Or.inl ⟨wd_907, rfl⟩, by decide +kernel, ⟨by decide +kernel, by decide +kernel⟩, fun sig h => by rw [show parseMethodDescriptor (am_y 90).desc = some (⟨[.int], some (.int)⟩ : MethodDescriptor) from by decide +kernel] at h; cases h; rfl⟩
theorem mX7_snapshot : am_mt 91 1 := ⟨Or.inl ⟨wd_899, rfl⟩, by decide +kernel, ⟨by decide +kernel, by decide +kernel⟩, fun sig h => by rw [show parseMethodDescriptor (am_y 91).desc = some (⟨[.int], some (.int)⟩ : MethodDescriptor) from by decide +kernel] at h; cases h; rfl⟩
theorem mX7_crash : am_mt 92 1 := ⟨Or.inl ⟨wd_911, rfl⟩, by decide +kernel, ⟨by decide +kernel, by decide +kernel⟩, fun sig h => by rw [show parseMethodDescriptor (am_y 92).desc = some (⟨[.int], some (.int)⟩ : MethodDescriptor) from by decide +kernel] at h; cases h; rfl⟩
theorem mX7_trim : am_mt 93 0 := ⟨Or.inl ⟨wd_915, rfl⟩, by decide +kernel, ⟨by decide +kernel, by decide +kernel⟩, fun sig h => by rw [show parseMethodDescriptor (am_y 93).desc = some (⟨[], some (.int)⟩ : MethodDescriptor) from by decide +kernel] at h; cases h; rfl⟩
theorem mX7_isQuestion : am_mt 94 2 := ⟨Or.inl ⟨wd_935, rfl⟩, by decide +kernel, ⟨by decide +kernel, by decide +kernel⟩, fun sig h => by rw [show parseMethodDescriptor (am_y 94).desc = some (⟨[.int, .int], some (.boolean)⟩ : MethodDescriptor) from by decide +kernel] at h; cases h; rfl⟩
theorem mX7_tell : am_mt 95 3 := ⟨Or.inl ⟨wd_820, rfl⟩, by decide +kernel, ⟨by decide +kernel, by decide +kernel⟩, fun sig h => by rw [show parseMethodDescriptor (am_y 95).desc = some (⟨[.int, .int, .int], some (.long)⟩ : MethodDescriptor) from by decide +kernel] at h; cases h; rfl⟩
theorem mX7_ranked : am_mt 96 2 := ⟨Or.inl ⟨wd_824, rfl⟩, by decide +kernel, ⟨by decide +kernel, by decide +kernel⟩, fun sig h => by rw [show parseMethodDescriptor (am_y 96).desc = some (⟨[.int, .int], some (.int)⟩ : MethodDescriptor) from by decide +kernel] at h; cases h; rfl⟩
theorem mX7_may : am_mt 97 2 := ⟨Or.inl ⟨wd_808, rfl⟩, by decide +kernel, ⟨by decide +kernel, by decide +kernel⟩, fun sig h => by rw [show parseMethodDescriptor (am_y 97).desc = some (⟨[.int, .int], some (.boolean)⟩ : MethodDescriptor) from by decide +kernel] at h; cases h; rfl⟩
theorem mX7_answer : am_mt 98 2 := ⟨Or.inl ⟨wd_816, rfl⟩, by decide +kernel, ⟨by decide +kernel, by decide +kernel⟩, fun sig h => by rw [show parseMethodDescriptor (am_y 98).desc = some (⟨[.int, .int], none⟩ : MethodDescriptor) from by decide +kernel] at h; cases h; rfl⟩
theorem mX7_look : am_mt 99 1 := ⟨Or.inl ⟨wd_804, rfl⟩, by decide +kernel, ⟨by decide +kernel, by decide +kernel⟩, fun sig h => by rw [show parseMethodDescriptor (am_y 99).desc = some (⟨[.int], none⟩ : MethodDescriptor) from by decide +kernel] at h; cases h; rfl⟩
theorem mX7_waiting : am_mt 100 0 := ⟨Or.inl ⟨wd_939, rfl⟩, by decide +kernel, ⟨by decide +kernel, by decide +kernel⟩, fun sig h => by rw [show parseMethodDescriptor (am_y 100).desc = some (⟨[], some (.int)⟩ : MethodDescriptor) from by decide +kernel] at h; cases h; rfl⟩
theorem mX7_ask : am_mt 101 6 := ⟨Or.inl ⟨wd_919, rfl⟩, by decide +kernel, ⟨by decide +kernel, by decide +kernel⟩, fun sig h => by rw [show parseMethodDescriptor (am_y 101).desc = some (⟨[.int, .long, .int, .int, .int, .int], some (.int)⟩ : MethodDescriptor) from by decide +kernel] at h; cases h; rfl⟩
theorem mX7_read : am_mt 102 2 := ⟨Or.inl ⟨wd_943, rfl⟩, by decide +kernel, ⟨by decide +kernel, by decide +kernel⟩, fun sig h => by rw [show parseMethodDescriptor (am_y 102).desc = some (⟨[.int, .int], some (.long)⟩ : MethodDescriptor) from by decide +kernel] at h; cases h; rfl⟩
theorem mX7_value : am_mt 103 3 := ⟨Or.inl ⟨wd_948, rfl⟩, by decide +kernel, ⟨by decide +kernel, by decide +kernel⟩, fun sig h => by rw [show parseMethodDescriptor (am_y 103).desc = some (⟨[.int, .int, .int], some (.long)⟩ : MethodDescriptor) from by decide +kernel] at h; cases h; rfl⟩
theorem mX7_at : am_mt 104 2 := ⟨Or.inl ⟨wd_952, rfl⟩, by decide +kernel, ⟨by decide +kernel, by decide +kernel⟩, fun sig h => by rw [show parseMethodDescriptor (am_y 104).desc = some (⟨[.int, .int], some (.int)⟩ : MethodDescriptor) from by decide +kernel] at h; cases h; rfl⟩
theorem mX7_kept : am_mt 105 2 := ⟨Or.inl ⟨wd_956, rfl⟩, by decide +kernel, ⟨by decide +kernel, by decide +kernel⟩, fun sig h => by rw [show parseMethodDescriptor (am_y 105).desc = some (⟨[.int, .int], some (.int)⟩ : MethodDescriptor) from by decide +kernel] at h; cases h; rfl⟩
theorem mX7_log : am_mt 106 2 := ⟨Or.inl ⟨wd_960, rfl⟩, by decide +kernel, ⟨by decide +kernel, by decide +kernel⟩, fun sig h => by rw [show parseMethodDescriptor (am_y 106).desc = some (⟨[.int, .int], some (.int)⟩ : MethodDescriptor) from by decide +kernel] at h; cases h; rfl⟩
theorem mX7_logged : am_mt 107 3 := ⟨Or.inl ⟨wd_964, rfl⟩, by decide +kernel, ⟨by decide +kernel, by decide +kernel⟩, fun sig h => by rw [show parseMethodDescriptor (am_y 107).desc = some (⟨[.int, .int, .int], some (.int)⟩ : MethodDescriptor) from by decide +kernel] at h; cases h; rfl⟩
theorem mX7_session : am_mt 108 3 := ⟨Or.inl ⟨wd_969, rfl⟩, by decide +kernel, ⟨by decide +kernel, by decide +kernel⟩, fun sig h => by rw [show parseMethodDescriptor (am_y 108).desc = some (⟨[.int, .int, .int], some (.int)⟩ : MethodDescriptor) from by decide +kernel] at h; cases h; rfl⟩
theorem mX7_told : am_mt 109 2 := ⟨Or.inl ⟨wd_973, rfl⟩, by decide +kernel, ⟨by decide +kernel, by decide +kernel⟩, fun sig h => by rw [show parseMethodDescriptor (am_y 109).desc = some (⟨[.long, .int], some (.int)⟩ : MethodDescriptor) from by decide +kernel] at h; cases h; rfl⟩
theorem mX7_count : am_mt 110 1 := ⟨Or.inl ⟨wd_977, rfl⟩, by decide +kernel, ⟨by decide +kernel, by decide +kernel⟩, fun sig h => by rw [show parseMethodDescriptor (am_y 110).desc = some (⟨[.int], some (.int)⟩ : MethodDescriptor) from by decide +kernel] at h; cases h; rfl⟩
theorem mL_cell : am_mt 111 2 := ⟨Or.inl ⟨wd_182, rfl⟩, by decide +kernel, ⟨by decide +kernel, by decide +kernel⟩, fun sig h => by rw [show parseMethodDescriptor (am_y 111).desc = some (⟨[.array (.int), .int], some (.int)⟩ : MethodDescriptor) from by decide +kernel] at h; cases h; rfl⟩
theorem mL_mode : am_mt 112 4 := ⟨Or.inr wd_185, by decide +kernel, ⟨by decide +kernel, by decide +kernel⟩, fun sig h => by rw [show parseMethodDescriptor (am_y 112).desc = some (⟨[.object "ReadSide", .int, .int, .array (.long)], some (.int)⟩ : MethodDescriptor) from by decide +kernel] at h; cases h; rfl⟩
theorem mL_home : am_mt 113 4 := ⟨Or.inr wd_338, by decide +kernel, ⟨by decide +kernel, by decide +kernel⟩, fun sig h => by rw [show parseMethodDescriptor (am_y 113).desc = some (⟨[.object "ReadSide", .int, .int, .array (.long)], some (.int)⟩ : MethodDescriptor) from by decide +kernel] at h; cases h; rfl⟩
theorem mL_command : am_mt 114 7 := ⟨Or.inr wd_345, by decide +kernel, ⟨by decide +kernel, by decide +kernel⟩, fun sig h => by rw [show parseMethodDescriptor (am_y 114).desc = some (⟨[.object "ReadSide", .int, .int, .int, .int, .int, .array (.long)], some (.int)⟩ : MethodDescriptor) from by decide +kernel] at h; cases h; rfl⟩
theorem mL_step : am_mt 115 4 := ⟨Or.inr wd_418, by decide +kernel, ⟨by decide +kernel, by decide +kernel⟩, fun sig h => by rw [show parseMethodDescriptor (am_y 115).desc = some (⟨[.object "ReadSide", .int, .int, .array (.long)], some (.int)⟩ : MethodDescriptor) from by decide +kernel] at h; cases h; rfl⟩
theorem mL_speed : am_mt 116 4 := ⟨Or.inr wd_458, by decide +kernel, ⟨by decide +kernel, by decide +kernel⟩, fun sig h => by rw [show parseMethodDescriptor (am_y 116).desc = some (⟨[.object "ReadSide", .int, .int, .array (.long)], some (.int)⟩ : MethodDescriptor) from by decide +kernel] at h; cases h; rfl⟩
theorem mL_ticks : am_mt 117 3 := ⟨Or.inr wd_465, by decide +kernel, ⟨by decide +kernel, by decide +kernel⟩, fun sig h => by rw [show parseMethodDescriptor (am_y 117).desc = some (⟨[.object "ReadSide", .int, .array (.long)], some (.int)⟩ : MethodDescriptor) from by decide +kernel] at h; cases h; rfl⟩
theorem mL_up : am_mt 118 4 := ⟨Or.inr wd_484, by decide +kernel, ⟨by decide +kernel, by decide +kernel⟩, fun sig h => by rw [show parseMethodDescriptor (am_y 118).desc = some (⟨[.object "ReadSide", .int, .boolean, .array (.long)], some (.int)⟩ : MethodDescriptor) from by decide +kernel] at h; cases h; rfl⟩
theorem mL_snapshot : am_mt 119 3 := ⟨Or.inr wd_491, by decide +kernel, ⟨by decide +kernel, by decide +kernel⟩, fun sig h => by rw [show parseMethodDescriptor (am_y 119).desc = some (⟨[.object "ReadSide", .int, .array (.long)], some (.int)⟩ : MethodDescriptor) from by decide +kernel] at h; cases h; rfl⟩
theorem mL_crash : am_mt 120 3 := ⟨Or.inr wd_513, by decide +kernel, ⟨by decide +kernel, by decide +kernel⟩, fun sig h => by rw [show parseMethodDescriptor (am_y 120).desc = some (⟨[.object "ReadSide", .int, .array (.long)], some (.int)⟩ : MethodDescriptor) from by decide +kernel] at h; cases h; rfl⟩
theorem mL_ask : am_mt 121 8 := ⟨Or.inr wd_524, by decide +kernel, ⟨by decide +kernel, by decide +kernel⟩, fun sig h => by rw [show parseMethodDescriptor (am_y 121).desc = some (⟨[.object "ReadSide", .int, .long, .int, .int, .int, .int, .array (.long)], some (.int)⟩ : MethodDescriptor) from by decide +kernel] at h; cases h; rfl⟩
theorem mL_read : am_mt 122 4 := ⟨Or.inr wd_597, by decide +kernel, ⟨by decide +kernel, by decide +kernel⟩, fun sig h => by rw [show parseMethodDescriptor (am_y 122).desc = some (⟨[.object "ReadSide", .int, .int, .array (.long)], some (.int)⟩ : MethodDescriptor) from by decide +kernel] at h; cases h; rfl⟩
theorem mL_value : am_mt 123 5 := ⟨Or.inr wd_605, by decide +kernel, ⟨by decide +kernel, by decide +kernel⟩, fun sig h => by rw [show parseMethodDescriptor (am_y 123).desc = some (⟨[.object "ReadSide", .int, .int, .int, .array (.long)], some (.int)⟩ : MethodDescriptor) from by decide +kernel] at h; cases h; rfl⟩
theorem mL_at : am_mt 124 4 := ⟨Or.inr wd_612, by decide +kernel, ⟨by decide +kernel, by decide +kernel⟩, fun sig h => by rw [show parseMethodDescriptor (am_y 124).desc = some (⟨[.object "ReadSide", .int, .int, .array (.long)], some (.int)⟩ : MethodDescriptor) from by decide +kernel] at h; cases h; rfl⟩
theorem mL_kept : am_mt 125 4 := ⟨Or.inr wd_619, by decide +kernel, ⟨by decide +kernel, by decide +kernel⟩, fun sig h => by rw [show parseMethodDescriptor (am_y 125).desc = some (⟨[.object "ReadSide", .int, .int, .array (.long)], some (.int)⟩ : MethodDescriptor) from by decide +kernel] at h; cases h; rfl⟩
theorem mL_log : am_mt 126 4 := ⟨Or.inr wd_626, by decide +kernel, ⟨by decide +kernel, by decide +kernel⟩, fun sig h => by rw [show parseMethodDescriptor (am_y 126).desc = some (⟨[.object "ReadSide", .int, .int, .array (.long)], some (.int)⟩ : MethodDescriptor) from by decide +kernel] at h; cases h; rfl⟩
theorem mL_logged : am_mt 127 5 := ⟨Or.inr wd_633, by decide +kernel, ⟨by decide +kernel, by decide +kernel⟩, fun sig h => by rw [show parseMethodDescriptor (am_y 127).desc = some (⟨[.object "ReadSide", .int, .int, .int, .array (.long)], some (.int)⟩ : MethodDescriptor) from by decide +kernel] at h; cases h; rfl⟩
theorem mL_session : am_mt 128 5 := ⟨Or.inr wd_641, by decide +kernel, ⟨by decide +kernel, by decide +kernel⟩, fun sig h => by rw [show parseMethodDescriptor (am_y 128).desc = some (⟨[.object "ReadSide", .int, .int, .int, .array (.long)], some (.int)⟩ : MethodDescriptor) from by decide +kernel] at h; cases h; rfl⟩
theorem mL_told : am_mt 129 4 := ⟨Or.inr wd_648, by decide +kernel, ⟨by decide +kernel, by decide +kernel⟩, fun sig h => by rw [show parseMethodDescriptor (am_y 129).desc = some (⟨[.object "ReadSide", .long, .int, .array (.long)], some (.int)⟩ : MethodDescriptor) from by decide +kernel] at h; cases h; rfl⟩
theorem mL_count : am_mt 130 3 := ⟨Or.inr wd_655, by decide +kernel, ⟨by decide +kernel, by decide +kernel⟩, fun sig h => by rw [show parseMethodDescriptor (am_y 130).desc = some (⟨[.object "ReadSide", .int, .array (.long)], some (.int)⟩ : MethodDescriptor) from by decide +kernel] at h; cases h; rfl⟩
end
section
theorem iX0_init_0 : am_at 0 0 (.aload_n 0) 1 1 := ⟨by decide +kernel, rfl⟩
theorem iX0_init_1 : am_at 0 1 (.invokespecial 1) 3 4 := ⟨by decide +kernel, rfl⟩
theorem iX0_init_4 : am_at 0 4 (.aload_n 0) 1 5 := ⟨by decide +kernel, rfl⟩
theorem iX0_init_5 : am_at 0 5 (.iload_n 1) 1 6 := ⟨by decide +kernel, rfl⟩
theorem iX0_init_6 : am_at 0 6 (.putfield 7) 3 9 := ⟨by decide +kernel, rfl⟩
theorem fX0_init_7 : am_fld 0 7 0 0 0 := ⟨by decide, rfl, wd_377⟩
theorem iX0_init_9 : am_at 0 9 (.aload_n 0) 1 10 := ⟨by decide +kernel, rfl⟩
theorem iX0_init_10 : am_at 0 10 (.iload_n 2) 1 11 := ⟨by decide +kernel, rfl⟩
theorem iX0_init_11 : am_at 0 11 (.putfield 13) 3 14 := ⟨by decide +kernel, rfl⟩
theorem fX0_init_13 : am_fld 0 13 0 1 0 := ⟨by decide, rfl, wd_380⟩
theorem iX0_init_14 : am_at 0 14 (.aload_n 0) 1 15 := ⟨by decide +kernel, rfl⟩
theorem iX0_init_15 : am_at 0 15 (.iload_n 3) 1 16 := ⟨by decide +kernel, rfl⟩
theorem iX0_init_16 : am_at 0 16 (.putfield 16) 3 19 := ⟨by decide +kernel, rfl⟩
theorem fX0_init_16 : am_fld 0 16 0 2 0 := ⟨by decide, rfl, wd_383⟩
theorem iX0_init_19 : am_at 0 19 (.aload_n 0) 1 20 := ⟨by decide +kernel, rfl⟩
theorem iX0_init_20 : am_at 0 20 (.iload 4) 2 22 := ⟨by decide +kernel, rfl⟩
theorem iX0_init_22 : am_at 0 22 (.putfield 19) 3 25 := ⟨by decide +kernel, rfl⟩
theorem fX0_init_19 : am_fld 0 19 0 3 0 := ⟨by decide, rfl, wd_386⟩
theorem iX0_init_25 : am_at 0 25 (.aload_n 0) 1 26 := ⟨by decide +kernel, rfl⟩
theorem iX0_init_26 : am_at 0 26 (.aload 5) 2 28 := ⟨by decide +kernel, rfl⟩
theorem iX0_init_28 : am_at 0 28 (.putfield 22) 3 31 := ⟨by decide +kernel, rfl⟩
theorem fX0_init_22 : am_fld 0 22 0 4 2 := ⟨by decide, rfl, wd_389⟩
theorem iX0_init_31 : am_at 0 31 (.return_) 1 32 := ⟨by decide +kernel, rfl⟩
theorem iX1_init_0 : am_at 1 0 (.aload_n 0) 1 1 := ⟨by decide +kernel, rfl⟩
theorem iX1_init_1 : am_at 1 1 (.invokespecial 3) 3 4 := ⟨by decide +kernel, rfl⟩
theorem iX1_init_4 : am_at 1 4 (.aload_n 0) 1 5 := ⟨by decide +kernel, rfl⟩
theorem iX1_init_5 : am_at 1 5 (.sipush 400) 3 8 := ⟨by decide +kernel, rfl⟩
theorem iX1_init_8 : am_at 1 8 (.anewarray 9) 3 11 := ⟨by decide +kernel, rfl⟩
theorem iX1_init_11 : am_at 1 11 (.putfield 11) 3 14 := ⟨by decide +kernel, rfl⟩
theorem fX1_init_11 : am_fld 1 11 1 0 2 := ⟨by decide, rfl, wd_34⟩
theorem iX1_init_14 : am_at 1 14 (.return_) 1 15 := ⟨by decide +kernel, rfl⟩
theorem iX1_commandAt_0 : am_at 2 0 (.iload_n 1) 1 1 := ⟨by decide +kernel, rfl⟩
theorem iX1_commandAt_1 : am_at 2 1 (.aload_n 0) 1 2 := ⟨by decide +kernel, rfl⟩
theorem iX1_commandAt_2 : am_at 2 2 (.getfield 17) 3 5 := ⟨by decide +kernel, rfl⟩
theorem fX1_commandAt_17 : am_fld 2 17 1 2 0 := ⟨by decide, rfl, wd_37⟩
theorem iX1_commandAt_5 : am_jp 2 5 (.if_icmp .le 22) 22 27 8 := ⟨by decide +kernel, by decide, rfl⟩
theorem iX1_commandAt_8 : am_at 2 8 (.iload_n 1) 1 9 := ⟨by decide +kernel, rfl⟩
theorem iX1_commandAt_9 : am_at 2 9 (.aload_n 0) 1 10 := ⟨by decide +kernel, rfl⟩
theorem iX1_commandAt_10 : am_at 2 10 (.getfield 21) 3 13 := ⟨by decide +kernel, rfl⟩
theorem fX1_commandAt_21 : am_fld 2 21 1 1 0 := ⟨by decide, rfl, wd_35⟩
theorem iX1_commandAt_13 : am_jp 2 13 (.if_icmp .gt 14) 14 27 16 := ⟨by decide +kernel, by decide, rfl⟩
theorem iX1_commandAt_16 : am_at 2 16 (.aload_n 0) 1 17 := ⟨by decide +kernel, rfl⟩
theorem iX1_commandAt_17 : am_at 2 17 (.getfield 11) 3 20 := ⟨by decide +kernel, rfl⟩
theorem fX1_commandAt_11 : am_fld 2 11 1 0 2 := ⟨by decide, rfl, wd_34⟩
theorem iX1_commandAt_20 : am_at 2 20 (.iload_n 1) 1 21 := ⟨by decide +kernel, rfl⟩
theorem iX1_commandAt_21 : am_at 2 21 (.iconst 1) 1 22 := ⟨by decide +kernel, rfl⟩
theorem iX1_commandAt_22 : am_at 2 22 (.isub) 1 23 := ⟨by decide +kernel, rfl⟩
theorem iX1_commandAt_23 : am_at 2 23 (.aaload) 1 24 := ⟨by decide +kernel, rfl⟩
theorem iX1_commandAt_24 : am_jp 2 24 (.goto 4) 4 28 27 := ⟨by decide +kernel, by decide, rfl⟩
theorem iX1_commandAt_27 : am_at 2 27 (.aconst_null) 1 28 := ⟨by decide +kernel, rfl⟩
theorem iX1_commandAt_28 : am_at 2 28 (.areturn) 1 29 := ⟨by decide +kernel, rfl⟩
theorem iX1_append_0 : am_at 3 0 (.aload_n 0) 1 1 := ⟨by decide +kernel, rfl⟩
theorem iX1_append_1 : am_at 3 1 (.getfield 21) 3 4 := ⟨by decide +kernel, rfl⟩
theorem fX1_append_21 : am_fld 3 21 1 1 0 := ⟨by decide, rfl, wd_35⟩
theorem iX1_append_4 : am_at 3 4 (.aload_n 0) 1 5 := ⟨by decide +kernel, rfl⟩
theorem iX1_append_5 : am_at 3 5 (.getfield 11) 3 8 := ⟨by decide +kernel, rfl⟩
theorem fX1_append_11 : am_fld 3 11 1 0 2 := ⟨by decide, rfl, wd_34⟩
theorem iX1_append_8 : am_at 3 8 (.arraylength) 1 9 := ⟨by decide +kernel, rfl⟩
theorem iX1_append_9 : am_jp 3 9 (.if_icmp .ge 23) 23 32 12 := ⟨by decide +kernel, by decide, rfl⟩
theorem iX1_append_12 : am_at 3 12 (.aload_n 0) 1 13 := ⟨by decide +kernel, rfl⟩
theorem iX1_append_13 : am_at 3 13 (.getfield 11) 3 16 := ⟨by decide +kernel, rfl⟩
theorem iX1_append_16 : am_at 3 16 (.aload_n 0) 1 17 := ⟨by decide +kernel, rfl⟩
theorem iX1_append_17 : am_at 3 17 (.getfield 21) 3 20 := ⟨by decide +kernel, rfl⟩
theorem iX1_append_20 : am_at 3 20 (.aload_n 1) 1 21 := ⟨by decide +kernel, rfl⟩
theorem iX1_append_21 : am_at 3 21 (.aastore) 1 22 := ⟨by decide +kernel, rfl⟩
theorem iX1_append_22 : am_at 3 22 (.aload_n 0) 1 23 := ⟨by decide +kernel, rfl⟩
theorem iX1_append_23 : am_at 3 23 (.dup) 1 24 := ⟨by decide +kernel, rfl⟩
theorem iX1_append_24 : am_at 3 24 (.getfield 21) 3 27 := ⟨by decide +kernel, rfl⟩
theorem iX1_append_27 : am_at 3 27 (.iconst 1) 1 28 := ⟨by decide +kernel, rfl⟩
theorem iX1_append_28 : am_at 3 28 (.iadd) 1 29 := ⟨by decide +kernel, rfl⟩
theorem iX1_append_29 : am_at 3 29 (.putfield 21) 3 32 := ⟨by decide +kernel, rfl⟩
theorem iX1_append_32 : am_at 3 32 (.return_) 1 33 := ⟨by decide +kernel, rfl⟩
theorem iX1_dropTo_0 : am_at 4 0 (.iconst 0) 1 1 := ⟨by decide +kernel, rfl⟩
theorem iX1_dropTo_1 : am_at 4 1 (.istore_n 2) 1 2 := ⟨by decide +kernel, rfl⟩
theorem iX1_dropTo_2 : am_at 4 2 (.aload_n 0) 1 3 := ⟨by decide +kernel, rfl⟩
theorem iX1_dropTo_3 : am_at 4 3 (.getfield 17) 3 6 := ⟨by decide +kernel, rfl⟩
theorem fX1_dropTo_17 : am_fld 4 17 1 2 0 := ⟨by decide, rfl, wd_37⟩
theorem iX1_dropTo_6 : am_at 4 6 (.iconst 1) 1 7 := ⟨by decide +kernel, rfl⟩
theorem iX1_dropTo_7 : am_at 4 7 (.iadd) 1 8 := ⟨by decide +kernel, rfl⟩
theorem iX1_dropTo_8 : am_at 4 8 (.istore_n 3) 1 9 := ⟨by decide +kernel, rfl⟩
theorem iX1_dropTo_9 : am_at 4 9 (.iload_n 3) 1 10 := ⟨by decide +kernel, rfl⟩
theorem iX1_dropTo_10 : am_at 4 10 (.iload_n 1) 1 11 := ⟨by decide +kernel, rfl⟩
theorem iX1_dropTo_11 : am_jp 4 11 (.if_icmp .gt 29) 29 40 14 := ⟨by decide +kernel, by decide, rfl⟩
theorem iX1_dropTo_14 : am_at 4 14 (.iload_n 3) 1 15 := ⟨by decide +kernel, rfl⟩
theorem iX1_dropTo_15 : am_at 4 15 (.aload_n 0) 1 16 := ⟨by decide +kernel, rfl⟩
theorem iX1_dropTo_16 : am_at 4 16 (.getfield 21) 3 19 := ⟨by decide +kernel, rfl⟩
theorem fX1_dropTo_21 : am_fld 4 21 1 1 0 := ⟨by decide, rfl, wd_35⟩
theorem iX1_dropTo_19 : am_jp 4 19 (.if_icmp .gt 21) 21 40 22 := ⟨by decide +kernel, by decide, rfl⟩
theorem iX1_dropTo_22 : am_at 4 22 (.aload_n 0) 1 23 := ⟨by decide +kernel, rfl⟩
theorem iX1_dropTo_23 : am_at 4 23 (.getfield 11) 3 26 := ⟨by decide +kernel, rfl⟩
theorem fX1_dropTo_11 : am_fld 4 11 1 0 2 := ⟨by decide, rfl, wd_34⟩
theorem iX1_dropTo_26 : am_at 4 26 (.iload_n 3) 1 27 := ⟨by decide +kernel, rfl⟩
theorem iX1_dropTo_27 : am_at 4 27 (.iconst 1) 1 28 := ⟨by decide +kernel, rfl⟩
theorem iX1_dropTo_28 : am_at 4 28 (.isub) 1 29 := ⟨by decide +kernel, rfl⟩
theorem iX1_dropTo_29 : am_at 4 29 (.aconst_null) 1 30 := ⟨by decide +kernel, rfl⟩
theorem iX1_dropTo_30 : am_at 4 30 (.aastore) 1 31 := ⟨by decide +kernel, rfl⟩
theorem iX1_dropTo_31 : am_at 4 31 (.iinc 2 1) 3 34 := ⟨by decide +kernel, rfl⟩
theorem iX1_dropTo_34 : am_at 4 34 (.iinc 3 1) 3 37 := ⟨by decide +kernel, rfl⟩
theorem iX1_dropTo_37 : am_jp 4 37 (.goto (-28)) (-28) 9 40 := ⟨by decide +kernel, by decide, rfl⟩
theorem iX1_dropTo_40 : am_at 4 40 (.aload_n 0) 1 41 := ⟨by decide +kernel, rfl⟩
theorem iX1_dropTo_41 : am_at 4 41 (.dup) 1 42 := ⟨by decide +kernel, rfl⟩
theorem iX1_dropTo_42 : am_at 4 42 (.getfield 17) 3 45 := ⟨by decide +kernel, rfl⟩
theorem iX1_dropTo_45 : am_at 4 45 (.iload_n 2) 1 46 := ⟨by decide +kernel, rfl⟩
theorem iX1_dropTo_46 : am_at 4 46 (.iadd) 1 47 := ⟨by decide +kernel, rfl⟩
theorem iX1_dropTo_47 : am_at 4 47 (.putfield 17) 3 50 := ⟨by decide +kernel, rfl⟩
theorem iX1_dropTo_50 : am_at 4 50 (.iload_n 2) 1 51 := ⟨by decide +kernel, rfl⟩
theorem iX1_dropTo_51 : am_at 4 51 (.ireturn) 1 52 := ⟨by decide +kernel, rfl⟩
theorem iX2_init_0 : am_at 5 0 (.aload_n 0) 1 1 := ⟨by decide +kernel, rfl⟩
theorem iX2_init_1 : am_at 5 1 (.invokespecial 3) 3 4 := ⟨by decide +kernel, rfl⟩
theorem iX2_init_4 : am_at 5 4 (.aload_n 0) 1 5 := ⟨by decide +kernel, rfl⟩
theorem iX2_init_5 : am_at 5 5 (.iconst 0) 1 6 := ⟨by decide +kernel, rfl⟩
theorem iX2_init_6 : am_at 5 6 (.putfield 9) 3 9 := ⟨by decide +kernel, rfl⟩
theorem fX2_init_9 : am_fld 5 9 2 6 0 := ⟨by decide, rfl, wd_559⟩
theorem iX2_init_9 : am_at 5 9 (.aload_n 0) 1 10 := ⟨by decide +kernel, rfl⟩
theorem iX2_init_10 : am_at 5 10 (.iconst (-1)) 1 11 := ⟨by decide +kernel, rfl⟩
theorem iX2_init_11 : am_at 5 11 (.putfield 15) 3 14 := ⟨by decide +kernel, rfl⟩
theorem fX2_init_15 : am_fld 5 15 2 7 0 := ⟨by decide, rfl, wd_561⟩
theorem iX2_init_14 : am_at 5 14 (.aload_n 0) 1 15 := ⟨by decide +kernel, rfl⟩
theorem iX2_init_15 : am_at 5 15 (.iconst (-1)) 1 16 := ⟨by decide +kernel, rfl⟩
theorem iX2_init_16 : am_at 5 16 (.putfield 18) 3 19 := ⟨by decide +kernel, rfl⟩
theorem fX2_init_18 : am_fld 5 18 2 8 0 := ⟨by decide, rfl, wd_563⟩
theorem iX2_init_19 : am_at 5 19 (.aload_n 0) 1 20 := ⟨by decide +kernel, rfl⟩
theorem iX2_init_20 : am_at 5 20 (.iload_n 1) 1 21 := ⟨by decide +kernel, rfl⟩
theorem iX2_init_21 : am_at 5 21 (.putfield 21) 3 24 := ⟨by decide +kernel, rfl⟩
theorem fX2_init_21 : am_fld 5 21 2 0 0 := ⟨by decide, rfl, wd_547⟩
theorem iX2_init_24 : am_at 5 24 (.aload_n 0) 1 25 := ⟨by decide +kernel, rfl⟩
theorem iX2_init_25 : am_at 5 25 (.lload_n 2) 1 26 := ⟨by decide +kernel, rfl⟩
theorem iX2_init_26 : am_at 5 26 (.putfield 24) 3 29 := ⟨by decide +kernel, rfl⟩
theorem fX2_init_24 : am_fld 5 24 2 5 1 := ⟨by decide, rfl, wd_557⟩
theorem iX2_init_29 : am_at 5 29 (.aload_n 0) 1 30 := ⟨by decide +kernel, rfl⟩
theorem iX2_init_30 : am_at 5 30 (.iload 4) 2 32 := ⟨by decide +kernel, rfl⟩
theorem iX2_init_32 : am_at 5 32 (.putfield 28) 3 35 := ⟨by decide +kernel, rfl⟩
theorem fX2_init_28 : am_fld 5 28 2 1 0 := ⟨by decide, rfl, wd_549⟩
theorem iX2_init_35 : am_at 5 35 (.aload_n 0) 1 36 := ⟨by decide +kernel, rfl⟩
theorem iX2_init_36 : am_at 5 36 (.iload 5) 2 38 := ⟨by decide +kernel, rfl⟩
theorem iX2_init_38 : am_at 5 38 (.putfield 31) 3 41 := ⟨by decide +kernel, rfl⟩
theorem fX2_init_31 : am_fld 5 31 2 2 0 := ⟨by decide, rfl, wd_551⟩
theorem iX2_init_41 : am_at 5 41 (.aload_n 0) 1 42 := ⟨by decide +kernel, rfl⟩
theorem iX2_init_42 : am_at 5 42 (.iload 6) 2 44 := ⟨by decide +kernel, rfl⟩
theorem iX2_init_44 : am_at 5 44 (.putfield 34) 3 47 := ⟨by decide +kernel, rfl⟩
theorem fX2_init_34 : am_fld 5 34 2 3 0 := ⟨by decide, rfl, wd_553⟩
theorem iX2_init_47 : am_at 5 47 (.aload_n 0) 1 48 := ⟨by decide +kernel, rfl⟩
theorem iX2_init_48 : am_at 5 48 (.iload 7) 2 50 := ⟨by decide +kernel, rfl⟩
theorem iX2_init_50 : am_at 5 50 (.putfield 37) 3 53 := ⟨by decide +kernel, rfl⟩
theorem fX2_init_37 : am_fld 5 37 2 4 0 := ⟨by decide, rfl, wd_555⟩
theorem iX2_init_53 : am_at 5 53 (.return_) 1 54 := ⟨by decide +kernel, rfl⟩
theorem iX3_init_0 : am_at 6 0 (.aload_n 0) 1 1 := ⟨by decide +kernel, rfl⟩
theorem iX3_init_1 : am_at 6 1 (.invokespecial 3) 3 4 := ⟨by decide +kernel, rfl⟩
theorem iX3_init_4 : am_at 6 4 (.aload_n 0) 1 5 := ⟨by decide +kernel, rfl⟩
theorem iX3_init_5 : am_at 6 5 (.new 9) 3 8 := ⟨by decide +kernel, rfl⟩
theorem iX3_init_8 : am_at 6 8 (.dup) 1 9 := ⟨by decide +kernel, rfl⟩
theorem iX3_init_9 : am_at 6 9 (.invokespecial 11) 3 12 := ⟨by decide +kernel, rfl⟩
theorem cX3_init_11 : am_sI 6 11 12 := ⟨Or.inl wd_55, wd_56, rfl, wd_57⟩
theorem iX3_init_12 : am_at 6 12 (.putfield 12) 3 15 := ⟨by decide +kernel, rfl⟩
theorem fX3_init_12 : am_fld 6 12 3 0 2 := ⟨by decide, rfl, wd_83⟩
theorem iX3_init_15 : am_at 6 15 (.aload_n 0) 1 16 := ⟨by decide +kernel, rfl⟩
theorem iX3_init_16 : am_at 6 16 (.new 9) 3 19 := ⟨by decide +kernel, rfl⟩
theorem iX3_init_19 : am_at 6 19 (.dup) 1 20 := ⟨by decide +kernel, rfl⟩
theorem iX3_init_20 : am_at 6 20 (.invokespecial 11) 3 23 := ⟨by decide +kernel, rfl⟩
theorem iX3_init_23 : am_at 6 23 (.putfield 18) 3 26 := ⟨by decide +kernel, rfl⟩
theorem fX3_init_18 : am_fld 6 18 3 1 2 := ⟨by decide, rfl, wd_85⟩
theorem iX3_init_26 : am_at 6 26 (.aload_n 0) 1 27 := ⟨by decide +kernel, rfl⟩
theorem iX3_init_27 : am_at 6 27 (.iconst 3) 1 28 := ⟨by decide +kernel, rfl⟩
theorem iX3_init_28 : am_at 6 28 (.newarray .int) 2 30 := ⟨by decide +kernel, rfl⟩
theorem iX3_init_30 : am_at 6 30 (.putfield 21) 3 33 := ⟨by decide +kernel, rfl⟩
theorem fX3_init_21 : am_fld 6 21 3 2 2 := ⟨by decide, rfl, wd_86⟩
theorem iX3_init_33 : am_at 6 33 (.aload_n 0) 1 34 := ⟨by decide +kernel, rfl⟩
theorem iX3_init_34 : am_at 6 34 (.iconst 3) 1 35 := ⟨by decide +kernel, rfl⟩
theorem iX3_init_35 : am_at 6 35 (.newarray .int) 2 37 := ⟨by decide +kernel, rfl⟩
theorem iX3_init_37 : am_at 6 37 (.putfield 25) 3 40 := ⟨by decide +kernel, rfl⟩
theorem fX3_init_25 : am_fld 6 25 3 3 2 := ⟨by decide, rfl, wd_88⟩
theorem iX3_init_40 : am_at 6 40 (.aload_n 0) 1 41 := ⟨by decide +kernel, rfl⟩
theorem iX3_init_41 : am_at 6 41 (.iconst 1) 1 42 := ⟨by decide +kernel, rfl⟩
theorem iX3_init_42 : am_at 6 42 (.putfield 28) 3 45 := ⟨by decide +kernel, rfl⟩
theorem fX3_init_28 : am_fld 6 28 3 6 0 := ⟨by decide, rfl, wd_92⟩
theorem iX3_init_45 : am_at 6 45 (.return_) 1 46 := ⟨by decide +kernel, rfl⟩
theorem iX3_keep_0 : am_at 7 0 (.aload_n 0) 1 1 := ⟨by decide +kernel, rfl⟩
theorem iX3_keep_1 : am_at 7 1 (.getfield 18) 3 4 := ⟨by decide +kernel, rfl⟩
theorem fX3_keep_18 : am_fld 7 18 3 1 2 := ⟨by decide, rfl, wd_85⟩
theorem iX3_keep_4 : am_at 7 4 (.aload_n 0) 1 5 := ⟨by decide +kernel, rfl⟩
theorem iX3_keep_5 : am_at 7 5 (.getfield 12) 3 8 := ⟨by decide +kernel, rfl⟩
theorem fX3_keep_12 : am_fld 7 12 3 0 2 := ⟨by decide, rfl, wd_83⟩
theorem iX3_keep_8 : am_at 7 8 (.invokevirtual 32) 3 11 := ⟨by decide +kernel, rfl⟩
theorem cX3_keep_32 : am_sV 7 32 13 5 := ⟨wd_500, wd_501, wd_502, rfl, by decide⟩
theorem iX3_keep_11 : am_at 7 11 (.aload_n 0) 1 12 := ⟨by decide +kernel, rfl⟩
theorem iX3_keep_12 : am_at 7 12 (.getfield 21) 3 15 := ⟨by decide +kernel, rfl⟩
theorem fX3_keep_21 : am_fld 7 21 3 2 2 := ⟨by decide, rfl, wd_86⟩
theorem iX3_keep_15 : am_at 7 15 (.iconst 0) 1 16 := ⟨by decide +kernel, rfl⟩
theorem iX3_keep_16 : am_at 7 16 (.aload_n 0) 1 17 := ⟨by decide +kernel, rfl⟩
theorem iX3_keep_17 : am_at 7 17 (.getfield 25) 3 20 := ⟨by decide +kernel, rfl⟩
theorem fX3_keep_25 : am_fld 7 25 3 3 2 := ⟨by decide, rfl, wd_88⟩
theorem iX3_keep_20 : am_at 7 20 (.iconst 0) 1 21 := ⟨by decide +kernel, rfl⟩
theorem iX3_keep_21 : am_at 7 21 (.iconst 3) 1 22 := ⟨by decide +kernel, rfl⟩
theorem iX3_keep_22 : am_at 7 22 (.invokestatic 36) 3 25 := ⟨by decide +kernel, rfl⟩
theorem iX3_keep_25 : am_at 7 25 (.return_) 1 26 := ⟨by decide +kernel, rfl⟩
theorem iX3_comeAgain_0 : am_at 8 0 (.aload_n 0) 1 1 := ⟨by decide +kernel, rfl⟩
theorem iX3_comeAgain_1 : am_at 8 1 (.getfield 12) 3 4 := ⟨by decide +kernel, rfl⟩
theorem fX3_comeAgain_12 : am_fld 8 12 3 0 2 := ⟨by decide, rfl, wd_83⟩
theorem iX3_comeAgain_4 : am_at 8 4 (.aload_n 0) 1 5 := ⟨by decide +kernel, rfl⟩
theorem iX3_comeAgain_5 : am_at 8 5 (.getfield 18) 3 8 := ⟨by decide +kernel, rfl⟩
theorem fX3_comeAgain_18 : am_fld 8 18 3 1 2 := ⟨by decide, rfl, wd_85⟩
theorem iX3_comeAgain_8 : am_at 8 8 (.invokevirtual 32) 3 11 := ⟨by decide +kernel, rfl⟩
theorem cX3_comeAgain_32 : am_sV 8 32 13 5 := ⟨wd_500, wd_501, wd_502, rfl, by decide⟩
theorem iX3_comeAgain_11 : am_at 8 11 (.aload_n 0) 1 12 := ⟨by decide +kernel, rfl⟩
theorem iX3_comeAgain_12 : am_at 8 12 (.getfield 25) 3 15 := ⟨by decide +kernel, rfl⟩
theorem fX3_comeAgain_25 : am_fld 8 25 3 3 2 := ⟨by decide, rfl, wd_88⟩
theorem iX3_comeAgain_15 : am_at 8 15 (.iconst 0) 1 16 := ⟨by decide +kernel, rfl⟩
theorem iX3_comeAgain_16 : am_at 8 16 (.aload_n 0) 1 17 := ⟨by decide +kernel, rfl⟩
theorem iX3_comeAgain_17 : am_at 8 17 (.getfield 21) 3 20 := ⟨by decide +kernel, rfl⟩
theorem fX3_comeAgain_21 : am_fld 8 21 3 2 2 := ⟨by decide, rfl, wd_86⟩
theorem iX3_comeAgain_20 : am_at 8 20 (.iconst 0) 1 21 := ⟨by decide +kernel, rfl⟩
theorem iX3_comeAgain_21 : am_at 8 21 (.iconst 3) 1 22 := ⟨by decide +kernel, rfl⟩
theorem iX3_comeAgain_22 : am_at 8 22 (.invokestatic 36) 3 25 := ⟨by decide +kernel, rfl⟩
theorem iX3_comeAgain_25 : am_at 8 25 (.return_) 1 26 := ⟨by decide +kernel, rfl⟩
theorem iX4_init_0 : am_at 9 0 (.aload_n 0) 1 1 := ⟨by decide +kernel, rfl⟩
theorem iX4_init_1 : am_at 9 1 (.invokespecial 3) 3 4 := ⟨by decide +kernel, rfl⟩
theorem iX4_init_4 : am_at 9 4 (.aload_n 0) 1 5 := ⟨by decide +kernel, rfl⟩
theorem iX4_init_5 : am_at 9 5 (.iconst 3) 1 6 := ⟨by decide +kernel, rfl⟩
theorem iX4_init_6 : am_at 9 6 (.newarray .int) 2 8 := ⟨by decide +kernel, rfl⟩
theorem iX4_init_8 : am_at 9 8 (.putfield 9) 3 11 := ⟨by decide +kernel, rfl⟩
theorem fX4_init_9 : am_fld 9 9 4 0 2 := ⟨by decide, rfl, wd_116⟩
theorem iX4_init_11 : am_at 9 11 (.aload_n 0) 1 12 := ⟨by decide +kernel, rfl⟩
theorem iX4_init_12 : am_at 9 12 (.iconst 3) 1 13 := ⟨by decide +kernel, rfl⟩
theorem iX4_init_13 : am_at 9 13 (.newarray .int) 2 15 := ⟨by decide +kernel, rfl⟩
theorem iX4_init_15 : am_at 9 15 (.putfield 15) 3 18 := ⟨by decide +kernel, rfl⟩
theorem fX4_init_15 : am_fld 9 15 4 1 2 := ⟨by decide, rfl, wd_118⟩
theorem iX4_init_18 : am_at 9 18 (.return_) 1 19 := ⟨by decide +kernel, rfl⟩
theorem iX4_needsNow_0 : am_at 10 0 (.iconst 3) 1 1 := ⟨by decide +kernel, rfl⟩
theorem iX4_needsNow_1 : am_at 10 1 (.newarray .int) 2 3 := ⟨by decide +kernel, rfl⟩
theorem iX4_needsNow_3 : am_at 10 3 (.astore_n 1) 1 4 := ⟨by decide +kernel, rfl⟩
theorem iX4_needsNow_4 : am_at 10 4 (.iconst 0) 1 5 := ⟨by decide +kernel, rfl⟩
theorem iX4_needsNow_5 : am_at 10 5 (.istore_n 2) 1 6 := ⟨by decide +kernel, rfl⟩
theorem iX4_needsNow_6 : am_at 10 6 (.iload_n 2) 1 7 := ⟨by decide +kernel, rfl⟩
theorem iX4_needsNow_7 : am_at 10 7 (.iconst 3) 1 8 := ⟨by decide +kernel, rfl⟩
theorem iX4_needsNow_8 : am_jp 10 8 (.if_icmp .ge 52) 52 60 11 := ⟨by decide +kernel, by decide, rfl⟩
theorem iX4_needsNow_11 : am_at 10 11 (.aload_n 0) 1 12 := ⟨by decide +kernel, rfl⟩
theorem iX4_needsNow_12 : am_at 10 12 (.getfield 18) 3 15 := ⟨by decide +kernel, rfl⟩
theorem fX4_needsNow_18 : am_fld 10 18 4 2 0 := ⟨by decide, rfl, wd_120⟩
theorem iX4_needsNow_15 : am_at 10 15 (.iconst 4) 1 16 := ⟨by decide +kernel, rfl⟩
theorem iX4_needsNow_16 : am_at 10 16 (.iand) 1 17 := ⟨by decide +kernel, rfl⟩
theorem iX4_needsNow_17 : am_jp 10 17 (.ifCond .eq 12) 12 29 20 := ⟨by decide +kernel, by decide, rfl⟩
theorem iX4_needsNow_20 : am_at 10 20 (.aload_n 1) 1 21 := ⟨by decide +kernel, rfl⟩
theorem iX4_needsNow_21 : am_at 10 21 (.iload_n 2) 1 22 := ⟨by decide +kernel, rfl⟩
theorem iX4_needsNow_22 : am_at 10 22 (.aload_n 0) 1 23 := ⟨by decide +kernel, rfl⟩
theorem iX4_needsNow_23 : am_at 10 23 (.getfield 15) 3 26 := ⟨by decide +kernel, rfl⟩
theorem fX4_needsNow_15 : am_fld 10 15 4 1 2 := ⟨by decide, rfl, wd_118⟩
theorem iX4_needsNow_26 : am_at 10 26 (.iload_n 2) 1 27 := ⟨by decide +kernel, rfl⟩
theorem iX4_needsNow_27 : am_at 10 27 (.iaload) 1 28 := ⟨by decide +kernel, rfl⟩
theorem iX4_needsNow_28 : am_at 10 28 (.iastore) 1 29 := ⟨by decide +kernel, rfl⟩
theorem iX4_needsNow_29 : am_at 10 29 (.aload_n 0) 1 30 := ⟨by decide +kernel, rfl⟩
theorem iX4_needsNow_30 : am_at 10 30 (.getfield 18) 3 33 := ⟨by decide +kernel, rfl⟩
theorem iX4_needsNow_33 : am_at 10 33 (.bipush 8) 2 35 := ⟨by decide +kernel, rfl⟩
theorem iX4_needsNow_35 : am_at 10 35 (.iand) 1 36 := ⟨by decide +kernel, rfl⟩
theorem iX4_needsNow_36 : am_jp 10 36 (.ifCond .eq 18) 18 54 39 := ⟨by decide +kernel, by decide, rfl⟩
theorem iX4_needsNow_39 : am_at 10 39 (.aload_n 1) 1 40 := ⟨by decide +kernel, rfl⟩
theorem iX4_needsNow_40 : am_at 10 40 (.iload_n 2) 1 41 := ⟨by decide +kernel, rfl⟩
theorem iX4_needsNow_41 : am_at 10 41 (.aload_n 1) 1 42 := ⟨by decide +kernel, rfl⟩
theorem iX4_needsNow_42 : am_at 10 42 (.iload_n 2) 1 43 := ⟨by decide +kernel, rfl⟩
theorem iX4_needsNow_43 : am_at 10 43 (.iaload) 1 44 := ⟨by decide +kernel, rfl⟩
theorem iX4_needsNow_44 : am_at 10 44 (.aload_n 0) 1 45 := ⟨by decide +kernel, rfl⟩
theorem iX4_needsNow_45 : am_at 10 45 (.getfield 9) 3 48 := ⟨by decide +kernel, rfl⟩
theorem fX4_needsNow_9 : am_fld 10 9 4 0 2 := ⟨by decide, rfl, wd_116⟩
theorem iX4_needsNow_48 : am_at 10 48 (.iload_n 2) 1 49 := ⟨by decide +kernel, rfl⟩
theorem iX4_needsNow_49 : am_at 10 49 (.iaload) 1 50 := ⟨by decide +kernel, rfl⟩
theorem iX4_needsNow_50 : am_at 10 50 (.invokestatic 22) 3 53 := ⟨by decide +kernel, rfl⟩
theorem iX4_needsNow_53 : am_at 10 53 (.iastore) 1 54 := ⟨by decide +kernel, rfl⟩
theorem iX4_needsNow_54 : am_at 10 54 (.iinc 2 1) 3 57 := ⟨by decide +kernel, rfl⟩
theorem iX4_needsNow_57 : am_jp 10 57 (.goto (-51)) (-51) 6 60 := ⟨by decide +kernel, by decide, rfl⟩
theorem iX4_needsNow_60 : am_at 10 60 (.aload_n 1) 1 61 := ⟨by decide +kernel, rfl⟩
theorem iX4_needsNow_61 : am_at 10 61 (.areturn) 1 62 := ⟨by decide +kernel, rfl⟩
theorem iX4_see_0 : am_at 11 0 (.iconst 0) 1 1 := ⟨by decide +kernel, rfl⟩
theorem iX4_see_1 : am_at 11 1 (.istore_n 2) 1 2 := ⟨by decide +kernel, rfl⟩
theorem iX4_see_2 : am_at 11 2 (.iload_n 2) 1 3 := ⟨by decide +kernel, rfl⟩
theorem iX4_see_3 : am_at 11 3 (.iconst 3) 1 4 := ⟨by decide +kernel, rfl⟩
theorem iX4_see_4 : am_jp 11 4 (.if_icmp .ge 27) 27 31 7 := ⟨by decide +kernel, by decide, rfl⟩
theorem iX4_see_7 : am_at 11 7 (.aload_n 0) 1 8 := ⟨by decide +kernel, rfl⟩
theorem iX4_see_8 : am_at 11 8 (.getfield 15) 3 11 := ⟨by decide +kernel, rfl⟩
theorem fX4_see_15 : am_fld 11 15 4 1 2 := ⟨by decide, rfl, wd_118⟩
theorem iX4_see_11 : am_at 11 11 (.iload_n 2) 1 12 := ⟨by decide +kernel, rfl⟩
theorem iX4_see_12 : am_at 11 12 (.aload_n 0) 1 13 := ⟨by decide +kernel, rfl⟩
theorem iX4_see_13 : am_at 11 13 (.getfield 15) 3 16 := ⟨by decide +kernel, rfl⟩
theorem iX4_see_16 : am_at 11 16 (.iload_n 2) 1 17 := ⟨by decide +kernel, rfl⟩
theorem iX4_see_17 : am_at 11 17 (.iaload) 1 18 := ⟨by decide +kernel, rfl⟩
theorem iX4_see_18 : am_at 11 18 (.aload_n 1) 1 19 := ⟨by decide +kernel, rfl⟩
theorem iX4_see_19 : am_at 11 19 (.iload_n 2) 1 20 := ⟨by decide +kernel, rfl⟩
theorem iX4_see_20 : am_at 11 20 (.iaload) 1 21 := ⟨by decide +kernel, rfl⟩
theorem iX4_see_21 : am_at 11 21 (.invokestatic 22) 3 24 := ⟨by decide +kernel, rfl⟩
theorem iX4_see_24 : am_at 11 24 (.iastore) 1 25 := ⟨by decide +kernel, rfl⟩
theorem iX4_see_25 : am_at 11 25 (.iinc 2 1) 3 28 := ⟨by decide +kernel, rfl⟩
theorem iX4_see_28 : am_jp 11 28 (.goto (-26)) (-26) 2 31 := ⟨by decide +kernel, by decide, rfl⟩
theorem iX4_see_31 : am_at 11 31 (.return_) 1 32 := ⟨by decide +kernel, rfl⟩
theorem iX5_init_0 : am_at 12 0 (.aload_n 0) 1 1 := ⟨by decide +kernel, rfl⟩
theorem iX5_init_1 : am_at 12 1 (.invokespecial 3) 3 4 := ⟨by decide +kernel, rfl⟩
theorem iX5_init_4 : am_at 12 4 (.aload_n 0) 1 5 := ⟨by decide +kernel, rfl⟩
theorem iX5_init_5 : am_at 12 5 (.bipush 30) 2 7 := ⟨by decide +kernel, rfl⟩
theorem iX5_init_7 : am_at 12 7 (.newarray .int) 2 9 := ⟨by decide +kernel, rfl⟩
theorem iX5_init_9 : am_at 12 9 (.putfield 9) 3 12 := ⟨by decide +kernel, rfl⟩
theorem fX5_init_9 : am_fld 12 9 5 0 2 := ⟨by decide, rfl, wd_59⟩
theorem iX5_init_12 : am_at 12 12 (.aload_n 0) 1 13 := ⟨by decide +kernel, rfl⟩
theorem iX5_init_13 : am_at 12 13 (.bipush 30) 2 15 := ⟨by decide +kernel, rfl⟩
theorem iX5_init_15 : am_at 12 15 (.newarray .int) 2 17 := ⟨by decide +kernel, rfl⟩
theorem iX5_init_17 : am_at 12 17 (.putfield 15) 3 20 := ⟨by decide +kernel, rfl⟩
theorem fX5_init_15 : am_fld 12 15 5 1 2 := ⟨by decide, rfl, wd_60⟩
theorem iX5_init_20 : am_at 12 20 (.aload_n 0) 1 21 := ⟨by decide +kernel, rfl⟩
theorem iX5_init_21 : am_at 12 21 (.bipush 30) 2 23 := ⟨by decide +kernel, rfl⟩
theorem iX5_init_23 : am_at 12 23 (.newarray .int) 2 25 := ⟨by decide +kernel, rfl⟩
theorem iX5_init_25 : am_at 12 25 (.putfield 18) 3 28 := ⟨by decide +kernel, rfl⟩
theorem fX5_init_18 : am_fld 12 18 5 2 2 := ⟨by decide, rfl, wd_61⟩
theorem iX5_init_28 : am_at 12 28 (.aload_n 0) 1 29 := ⟨by decide +kernel, rfl⟩
theorem iX5_init_29 : am_at 12 29 (.bipush 30) 2 31 := ⟨by decide +kernel, rfl⟩
theorem iX5_init_31 : am_at 12 31 (.newarray .int) 2 33 := ⟨by decide +kernel, rfl⟩
theorem iX5_init_33 : am_at 12 33 (.putfield 21) 3 36 := ⟨by decide +kernel, rfl⟩
theorem fX5_init_21 : am_fld 12 21 5 3 2 := ⟨by decide, rfl, wd_62⟩
theorem iX5_init_36 : am_at 12 36 (.aload_n 0) 1 37 := ⟨by decide +kernel, rfl⟩
theorem iX5_init_37 : am_at 12 37 (.bipush 10) 2 39 := ⟨by decide +kernel, rfl⟩
theorem iX5_init_39 : am_at 12 39 (.newarray .long) 2 41 := ⟨by decide +kernel, rfl⟩
theorem iX5_init_41 : am_at 12 41 (.putfield 24) 3 44 := ⟨by decide +kernel, rfl⟩
theorem fX5_init_24 : am_fld 12 24 5 4 2 := ⟨by decide, rfl, wd_63⟩
theorem iX5_init_44 : am_at 12 44 (.aload_n 0) 1 45 := ⟨by decide +kernel, rfl⟩
theorem iX5_init_45 : am_at 12 45 (.bipush 10) 2 47 := ⟨by decide +kernel, rfl⟩
theorem iX5_init_47 : am_at 12 47 (.newarray .int) 2 49 := ⟨by decide +kernel, rfl⟩
theorem iX5_init_49 : am_at 12 49 (.putfield 28) 3 52 := ⟨by decide +kernel, rfl⟩
theorem fX5_init_28 : am_fld 12 28 5 5 2 := ⟨by decide, rfl, wd_64⟩
theorem iX5_init_52 : am_at 12 52 (.aload_n 0) 1 53 := ⟨by decide +kernel, rfl⟩
theorem iX5_init_53 : am_at 12 53 (.sipush 300) 3 56 := ⟨by decide +kernel, rfl⟩
theorem iX5_init_56 : am_at 12 56 (.newarray .int) 2 58 := ⟨by decide +kernel, rfl⟩
theorem iX5_init_58 : am_at 12 58 (.putfield 31) 3 61 := ⟨by decide +kernel, rfl⟩
theorem fX5_init_31 : am_fld 12 31 5 6 2 := ⟨by decide, rfl, wd_65⟩
theorem iX5_init_61 : am_at 12 61 (.iconst 0) 1 62 := ⟨by decide +kernel, rfl⟩
theorem iX5_init_62 : am_at 12 62 (.istore_n 1) 1 63 := ⟨by decide +kernel, rfl⟩
theorem iX5_init_63 : am_at 12 63 (.iload_n 1) 1 64 := ⟨by decide +kernel, rfl⟩
theorem iX5_init_64 : am_at 12 64 (.bipush 30) 2 66 := ⟨by decide +kernel, rfl⟩
theorem iX5_init_66 : am_jp 12 66 (.if_icmp .ge 16) 16 82 69 := ⟨by decide +kernel, by decide, rfl⟩
theorem iX5_init_69 : am_at 12 69 (.aload_n 0) 1 70 := ⟨by decide +kernel, rfl⟩
theorem iX5_init_70 : am_at 12 70 (.getfield 21) 3 73 := ⟨by decide +kernel, rfl⟩
theorem iX5_init_73 : am_at 12 73 (.iload_n 1) 1 74 := ⟨by decide +kernel, rfl⟩
theorem iX5_init_74 : am_at 12 74 (.iconst 1) 1 75 := ⟨by decide +kernel, rfl⟩
theorem iX5_init_75 : am_at 12 75 (.iastore) 1 76 := ⟨by decide +kernel, rfl⟩
theorem iX5_init_76 : am_at 12 76 (.iinc 1 1) 3 79 := ⟨by decide +kernel, rfl⟩
theorem iX5_init_79 : am_jp 12 79 (.goto (-16)) (-16) 63 82 := ⟨by decide +kernel, by decide, rfl⟩
theorem iX5_init_82 : am_at 12 82 (.return_) 1 83 := ⟨by decide +kernel, rfl⟩
theorem iX5_becomeLike_0 : am_at 13 0 (.aload_n 1) 1 1 := ⟨by decide +kernel, rfl⟩
theorem iX5_becomeLike_1 : am_at 13 1 (.getfield 9) 3 4 := ⟨by decide +kernel, rfl⟩
theorem fX5_becomeLike_9 : am_fld 13 9 5 0 2 := ⟨by decide, rfl, wd_59⟩
theorem iX5_becomeLike_4 : am_at 13 4 (.iconst 0) 1 5 := ⟨by decide +kernel, rfl⟩
theorem iX5_becomeLike_5 : am_at 13 5 (.aload_n 0) 1 6 := ⟨by decide +kernel, rfl⟩
theorem iX5_becomeLike_6 : am_at 13 6 (.getfield 9) 3 9 := ⟨by decide +kernel, rfl⟩
theorem iX5_becomeLike_9 : am_at 13 9 (.iconst 0) 1 10 := ⟨by decide +kernel, rfl⟩
theorem iX5_becomeLike_10 : am_at 13 10 (.bipush 30) 2 12 := ⟨by decide +kernel, rfl⟩
theorem iX5_becomeLike_12 : am_at 13 12 (.invokestatic 34) 3 15 := ⟨by decide +kernel, rfl⟩
theorem iX5_becomeLike_15 : am_at 13 15 (.aload_n 1) 1 16 := ⟨by decide +kernel, rfl⟩
theorem iX5_becomeLike_16 : am_at 13 16 (.getfield 15) 3 19 := ⟨by decide +kernel, rfl⟩
theorem fX5_becomeLike_15 : am_fld 13 15 5 1 2 := ⟨by decide, rfl, wd_60⟩
theorem iX5_becomeLike_19 : am_at 13 19 (.iconst 0) 1 20 := ⟨by decide +kernel, rfl⟩
theorem iX5_becomeLike_20 : am_at 13 20 (.aload_n 0) 1 21 := ⟨by decide +kernel, rfl⟩
theorem iX5_becomeLike_21 : am_at 13 21 (.getfield 15) 3 24 := ⟨by decide +kernel, rfl⟩
theorem iX5_becomeLike_24 : am_at 13 24 (.iconst 0) 1 25 := ⟨by decide +kernel, rfl⟩
theorem iX5_becomeLike_25 : am_at 13 25 (.bipush 30) 2 27 := ⟨by decide +kernel, rfl⟩
theorem iX5_becomeLike_27 : am_at 13 27 (.invokestatic 34) 3 30 := ⟨by decide +kernel, rfl⟩
theorem iX5_becomeLike_30 : am_at 13 30 (.aload_n 1) 1 31 := ⟨by decide +kernel, rfl⟩
theorem iX5_becomeLike_31 : am_at 13 31 (.getfield 18) 3 34 := ⟨by decide +kernel, rfl⟩
theorem fX5_becomeLike_18 : am_fld 13 18 5 2 2 := ⟨by decide, rfl, wd_61⟩
theorem iX5_becomeLike_34 : am_at 13 34 (.iconst 0) 1 35 := ⟨by decide +kernel, rfl⟩
theorem iX5_becomeLike_35 : am_at 13 35 (.aload_n 0) 1 36 := ⟨by decide +kernel, rfl⟩
theorem iX5_becomeLike_36 : am_at 13 36 (.getfield 18) 3 39 := ⟨by decide +kernel, rfl⟩
theorem iX5_becomeLike_39 : am_at 13 39 (.iconst 0) 1 40 := ⟨by decide +kernel, rfl⟩
theorem iX5_becomeLike_40 : am_at 13 40 (.bipush 30) 2 42 := ⟨by decide +kernel, rfl⟩
theorem iX5_becomeLike_42 : am_at 13 42 (.invokestatic 34) 3 45 := ⟨by decide +kernel, rfl⟩
theorem iX5_becomeLike_45 : am_at 13 45 (.aload_n 1) 1 46 := ⟨by decide +kernel, rfl⟩
theorem iX5_becomeLike_46 : am_at 13 46 (.getfield 21) 3 49 := ⟨by decide +kernel, rfl⟩
theorem fX5_becomeLike_21 : am_fld 13 21 5 3 2 := ⟨by decide, rfl, wd_62⟩
theorem iX5_becomeLike_49 : am_at 13 49 (.iconst 0) 1 50 := ⟨by decide +kernel, rfl⟩
theorem iX5_becomeLike_50 : am_at 13 50 (.aload_n 0) 1 51 := ⟨by decide +kernel, rfl⟩
theorem iX5_becomeLike_51 : am_at 13 51 (.getfield 21) 3 54 := ⟨by decide +kernel, rfl⟩
theorem iX5_becomeLike_54 : am_at 13 54 (.iconst 0) 1 55 := ⟨by decide +kernel, rfl⟩
theorem iX5_becomeLike_55 : am_at 13 55 (.bipush 30) 2 57 := ⟨by decide +kernel, rfl⟩
theorem iX5_becomeLike_57 : am_at 13 57 (.invokestatic 34) 3 60 := ⟨by decide +kernel, rfl⟩
theorem iX5_becomeLike_60 : am_at 13 60 (.aload_n 1) 1 61 := ⟨by decide +kernel, rfl⟩
theorem iX5_becomeLike_61 : am_at 13 61 (.getfield 24) 3 64 := ⟨by decide +kernel, rfl⟩
theorem fX5_becomeLike_24 : am_fld 13 24 5 4 2 := ⟨by decide, rfl, wd_63⟩
theorem iX5_becomeLike_64 : am_at 13 64 (.iconst 0) 1 65 := ⟨by decide +kernel, rfl⟩
theorem iX5_becomeLike_65 : am_at 13 65 (.aload_n 0) 1 66 := ⟨by decide +kernel, rfl⟩
theorem iX5_becomeLike_66 : am_at 13 66 (.getfield 24) 3 69 := ⟨by decide +kernel, rfl⟩
theorem iX5_becomeLike_69 : am_at 13 69 (.iconst 0) 1 70 := ⟨by decide +kernel, rfl⟩
theorem iX5_becomeLike_70 : am_at 13 70 (.bipush 10) 2 72 := ⟨by decide +kernel, rfl⟩
theorem iX5_becomeLike_72 : am_at 13 72 (.invokestatic 34) 3 75 := ⟨by decide +kernel, rfl⟩
theorem iX5_becomeLike_75 : am_at 13 75 (.aload_n 1) 1 76 := ⟨by decide +kernel, rfl⟩
theorem iX5_becomeLike_76 : am_at 13 76 (.getfield 28) 3 79 := ⟨by decide +kernel, rfl⟩
theorem fX5_becomeLike_28 : am_fld 13 28 5 5 2 := ⟨by decide, rfl, wd_64⟩
theorem iX5_becomeLike_79 : am_at 13 79 (.iconst 0) 1 80 := ⟨by decide +kernel, rfl⟩
theorem iX5_becomeLike_80 : am_at 13 80 (.aload_n 0) 1 81 := ⟨by decide +kernel, rfl⟩
theorem iX5_becomeLike_81 : am_at 13 81 (.getfield 28) 3 84 := ⟨by decide +kernel, rfl⟩
theorem iX5_becomeLike_84 : am_at 13 84 (.iconst 0) 1 85 := ⟨by decide +kernel, rfl⟩
theorem iX5_becomeLike_85 : am_at 13 85 (.bipush 10) 2 87 := ⟨by decide +kernel, rfl⟩
theorem iX5_becomeLike_87 : am_at 13 87 (.invokestatic 34) 3 90 := ⟨by decide +kernel, rfl⟩
theorem iX5_becomeLike_90 : am_at 13 90 (.aload_n 1) 1 91 := ⟨by decide +kernel, rfl⟩
theorem iX5_becomeLike_91 : am_at 13 91 (.getfield 31) 3 94 := ⟨by decide +kernel, rfl⟩
theorem fX5_becomeLike_31 : am_fld 13 31 5 6 2 := ⟨by decide, rfl, wd_65⟩
theorem iX5_becomeLike_94 : am_at 13 94 (.iconst 0) 1 95 := ⟨by decide +kernel, rfl⟩
theorem iX5_becomeLike_95 : am_at 13 95 (.aload_n 0) 1 96 := ⟨by decide +kernel, rfl⟩
theorem iX5_becomeLike_96 : am_at 13 96 (.getfield 31) 3 99 := ⟨by decide +kernel, rfl⟩
theorem iX5_becomeLike_99 : am_at 13 99 (.iconst 0) 1 100 := ⟨by decide +kernel, rfl⟩
theorem iX5_becomeLike_100 : am_at 13 100 (.sipush 300) 3 103 := ⟨by decide +kernel, rfl⟩
theorem iX5_becomeLike_103 : am_at 13 103 (.invokestatic 34) 3 106 := ⟨by decide +kernel, rfl⟩
theorem iX5_becomeLike_106 : am_at 13 106 (.return_) 1 107 := ⟨by decide +kernel, rfl⟩
theorem iX5_take_0 : am_at 14 0 (.aload_n 1) 1 1 := ⟨by decide +kernel, rfl⟩
theorem iX5_take_1 : am_at 14 1 (.getfield 40) 3 4 := ⟨by decide +kernel, rfl⟩
theorem fX5_take_40 : am_fld 14 40 0 1 0 := ⟨by decide, rfl, wd_381⟩
theorem iX5_take_4 : am_at 14 4 (.istore_n 2) 1 5 := ⟨by decide +kernel, rfl⟩
theorem iX5_take_5 : am_at 14 5 (.aload_n 1) 1 6 := ⟨by decide +kernel, rfl⟩
theorem iX5_take_6 : am_at 14 6 (.getfield 46) 3 9 := ⟨by decide +kernel, rfl⟩
theorem fX5_take_46 : am_fld 14 46 0 2 0 := ⟨by decide, rfl, wd_384⟩
theorem iX5_take_9 : am_at 14 9 (.istore_n 3) 1 10 := ⟨by decide +kernel, rfl⟩
theorem iX5_take_10 : am_at 14 10 (.aload_n 1) 1 11 := ⟨by decide +kernel, rfl⟩
theorem iX5_take_11 : am_at 14 11 (.getfield 49) 3 14 := ⟨by decide +kernel, rfl⟩
theorem fX5_take_49 : am_fld 14 49 0 3 0 := ⟨by decide, rfl, wd_387⟩
theorem iX5_take_14 : am_at 14 14 (.istore 4) 2 16 := ⟨by decide +kernel, rfl⟩
theorem iX5_take_16 : am_at 14 16 (.aload_n 1) 1 17 := ⟨by decide +kernel, rfl⟩
theorem iX5_take_17 : am_at 14 17 (.getfield 52) 3 20 := ⟨by decide +kernel, rfl⟩
theorem fX5_take_52 : am_fld 14 52 0 0 0 := ⟨by decide, rfl, wd_378⟩
theorem iX5_take_20 : decode (am_b 14) 20 = .ok (.tableswitch 90 0 4 #[36, 46, 57, 68, 79], 36) := by decide +kernel
theorem iX5_take_56 : am_at 14 56 (.aload_n 0) 1 57 := ⟨by decide +kernel, rfl⟩
theorem iX5_take_57 : am_at 14 57 (.iload_n 2) 1 58 := ⟨by decide +kernel, rfl⟩
theorem iX5_take_58 : am_at 14 58 (.iload 4) 2 60 := ⟨by decide +kernel, rfl⟩
theorem iX5_take_60 : am_at 14 60 (.invokevirtual 55) 3 63 := ⟨by decide +kernel, rfl⟩
theorem cX5_take_55 : am_sV 14 55 15 5 := ⟨wd_438, wd_439, wd_440, rfl, by decide⟩
theorem iX5_take_63 : am_jp 14 63 (.goto 47) 47 110 66 := ⟨by decide +kernel, by decide, rfl⟩
theorem iX5_take_66 : am_at 14 66 (.aload_n 0) 1 67 := ⟨by decide +kernel, rfl⟩
theorem iX5_take_67 : am_at 14 67 (.iload_n 2) 1 68 := ⟨by decide +kernel, rfl⟩
theorem iX5_take_68 : am_at 14 68 (.iload_n 3) 1 69 := ⟨by decide +kernel, rfl⟩
theorem iX5_take_69 : am_at 14 69 (.iload 4) 2 71 := ⟨by decide +kernel, rfl⟩
theorem iX5_take_71 : am_at 14 71 (.invokevirtual 59) 3 74 := ⟨by decide +kernel, rfl⟩
theorem cX5_take_59 : am_sV 14 59 16 5 := ⟨wd_443, wd_444, wd_445, rfl, by decide⟩
theorem iX5_take_74 : am_jp 14 74 (.goto 36) 36 110 77 := ⟨by decide +kernel, by decide, rfl⟩
theorem iX5_take_77 : am_at 14 77 (.aload_n 0) 1 78 := ⟨by decide +kernel, rfl⟩
theorem iX5_take_78 : am_at 14 78 (.iload_n 2) 1 79 := ⟨by decide +kernel, rfl⟩
theorem iX5_take_79 : am_at 14 79 (.iload_n 3) 1 80 := ⟨by decide +kernel, rfl⟩
theorem iX5_take_80 : am_at 14 80 (.iload 4) 2 82 := ⟨by decide +kernel, rfl⟩
theorem iX5_take_82 : am_at 14 82 (.invokevirtual 63) 3 85 := ⟨by decide +kernel, rfl⟩
theorem cX5_take_63 : am_sV 14 63 17 5 := ⟨wd_447, wd_448, wd_449, rfl, by decide⟩
theorem iX5_take_85 : am_jp 14 85 (.goto 25) 25 110 88 := ⟨by decide +kernel, by decide, rfl⟩
theorem iX5_take_88 : am_at 14 88 (.aload_n 0) 1 89 := ⟨by decide +kernel, rfl⟩
theorem iX5_take_89 : am_at 14 89 (.iload_n 2) 1 90 := ⟨by decide +kernel, rfl⟩
theorem iX5_take_90 : am_at 14 90 (.iload_n 3) 1 91 := ⟨by decide +kernel, rfl⟩
theorem iX5_take_91 : am_at 14 91 (.iload 4) 2 93 := ⟨by decide +kernel, rfl⟩
theorem iX5_take_93 : am_at 14 93 (.invokevirtual 66) 3 96 := ⟨by decide +kernel, rfl⟩
theorem cX5_take_66 : am_sV 14 66 18 5 := ⟨wd_451, wd_452, wd_453, rfl, by decide⟩
theorem iX5_take_96 : am_jp 14 96 (.goto 14) 14 110 99 := ⟨by decide +kernel, by decide, rfl⟩
theorem iX5_take_99 : am_at 14 99 (.aload_n 0) 1 100 := ⟨by decide +kernel, rfl⟩
theorem iX5_take_100 : am_at 14 100 (.getfield 21) 3 103 := ⟨by decide +kernel, rfl⟩
theorem fX5_take_21 : am_fld 14 21 5 3 2 := ⟨by decide, rfl, wd_62⟩
theorem iX5_take_103 : am_at 14 103 (.iload_n 2) 1 104 := ⟨by decide +kernel, rfl⟩
theorem iX5_take_104 : am_at 14 104 (.iload 4) 2 106 := ⟨by decide +kernel, rfl⟩
theorem iX5_take_106 : am_at 14 106 (.iastore) 1 107 := ⟨by decide +kernel, rfl⟩
theorem iX5_take_107 : am_jp 14 107 (.goto 3) 3 110 110 := ⟨by decide +kernel, by decide, rfl⟩
theorem iX5_take_110 : am_at 14 110 (.return_) 1 111 := ⟨by decide +kernel, rfl⟩
theorem iX5_receive_0 : am_at 15 0 (.aload_n 0) 1 1 := ⟨by decide +kernel, rfl⟩
theorem iX5_receive_1 : am_at 15 1 (.getfield 9) 3 4 := ⟨by decide +kernel, rfl⟩
theorem fX5_receive_9 : am_fld 15 9 5 0 2 := ⟨by decide, rfl, wd_59⟩
theorem iX5_receive_4 : am_at 15 4 (.iload_n 1) 1 5 := ⟨by decide +kernel, rfl⟩
theorem iX5_receive_5 : am_at 15 5 (.iaload) 1 6 := ⟨by decide +kernel, rfl⟩
theorem iX5_receive_6 : am_at 15 6 (.iload_n 2) 1 7 := ⟨by decide +kernel, rfl⟩
theorem iX5_receive_7 : am_at 15 7 (.iadd) 1 8 := ⟨by decide +kernel, rfl⟩
theorem iX5_receive_8 : am_at 15 8 (.ldc 69) 2 10 := ⟨by decide +kernel, rfl⟩
theorem iX5_receive_10 : am_jp 15 10 (.if_icmp .gt 13) 13 23 13 := ⟨by decide +kernel, by decide, rfl⟩
theorem iX5_receive_13 : am_at 15 13 (.aload_n 0) 1 14 := ⟨by decide +kernel, rfl⟩
theorem iX5_receive_14 : am_at 15 14 (.getfield 9) 3 17 := ⟨by decide +kernel, rfl⟩
theorem iX5_receive_17 : am_at 15 17 (.iload_n 1) 1 18 := ⟨by decide +kernel, rfl⟩
theorem iX5_receive_18 : am_at 15 18 (.dup2) 1 19 := ⟨by decide +kernel, rfl⟩
theorem iX5_receive_19 : am_at 15 19 (.iaload) 1 20 := ⟨by decide +kernel, rfl⟩
theorem iX5_receive_20 : am_at 15 20 (.iload_n 2) 1 21 := ⟨by decide +kernel, rfl⟩
theorem iX5_receive_21 : am_at 15 21 (.iadd) 1 22 := ⟨by decide +kernel, rfl⟩
theorem iX5_receive_22 : am_at 15 22 (.iastore) 1 23 := ⟨by decide +kernel, rfl⟩
theorem iX5_receive_23 : am_at 15 23 (.return_) 1 24 := ⟨by decide +kernel, rfl⟩
theorem iX5_reserve_0 : am_at 16 0 (.aload_n 0) 1 1 := ⟨by decide +kernel, rfl⟩
theorem iX5_reserve_1 : am_at 16 1 (.getfield 9) 3 4 := ⟨by decide +kernel, rfl⟩
theorem fX5_reserve_9 : am_fld 16 9 5 0 2 := ⟨by decide, rfl, wd_59⟩
theorem iX5_reserve_4 : am_at 16 4 (.iload_n 1) 1 5 := ⟨by decide +kernel, rfl⟩
theorem iX5_reserve_5 : am_at 16 5 (.iaload) 1 6 := ⟨by decide +kernel, rfl⟩
theorem iX5_reserve_6 : am_at 16 6 (.aload_n 0) 1 7 := ⟨by decide +kernel, rfl⟩
theorem iX5_reserve_7 : am_at 16 7 (.getfield 15) 3 10 := ⟨by decide +kernel, rfl⟩
theorem fX5_reserve_15 : am_fld 16 15 5 1 2 := ⟨by decide, rfl, wd_60⟩
theorem iX5_reserve_10 : am_at 16 10 (.iload_n 1) 1 11 := ⟨by decide +kernel, rfl⟩
theorem iX5_reserve_11 : am_at 16 11 (.iaload) 1 12 := ⟨by decide +kernel, rfl⟩
theorem iX5_reserve_12 : am_at 16 12 (.isub) 1 13 := ⟨by decide +kernel, rfl⟩
theorem iX5_reserve_13 : am_at 16 13 (.iload_n 3) 1 14 := ⟨by decide +kernel, rfl⟩
theorem iX5_reserve_14 : am_jp 16 14 (.if_icmp .lt 31) 31 45 17 := ⟨by decide +kernel, by decide, rfl⟩
theorem iX5_reserve_17 : am_at 16 17 (.aload_n 0) 1 18 := ⟨by decide +kernel, rfl⟩
theorem iX5_reserve_18 : am_at 16 18 (.getfield 31) 3 21 := ⟨by decide +kernel, rfl⟩
theorem fX5_reserve_31 : am_fld 16 31 5 6 2 := ⟨by decide, rfl, wd_65⟩
theorem iX5_reserve_21 : am_at 16 21 (.iload_n 2) 1 22 := ⟨by decide +kernel, rfl⟩
theorem iX5_reserve_22 : am_at 16 22 (.bipush 30) 2 24 := ⟨by decide +kernel, rfl⟩
theorem iX5_reserve_24 : am_at 16 24 (.imul) 1 25 := ⟨by decide +kernel, rfl⟩
theorem iX5_reserve_25 : am_at 16 25 (.iload_n 1) 1 26 := ⟨by decide +kernel, rfl⟩
theorem iX5_reserve_26 : am_at 16 26 (.iadd) 1 27 := ⟨by decide +kernel, rfl⟩
theorem iX5_reserve_27 : am_at 16 27 (.dup2) 1 28 := ⟨by decide +kernel, rfl⟩
theorem iX5_reserve_28 : am_at 16 28 (.iaload) 1 29 := ⟨by decide +kernel, rfl⟩
theorem iX5_reserve_29 : am_at 16 29 (.iload_n 3) 1 30 := ⟨by decide +kernel, rfl⟩
theorem iX5_reserve_30 : am_at 16 30 (.iadd) 1 31 := ⟨by decide +kernel, rfl⟩
theorem iX5_reserve_31 : am_at 16 31 (.iastore) 1 32 := ⟨by decide +kernel, rfl⟩
theorem iX5_reserve_32 : am_at 16 32 (.aload_n 0) 1 33 := ⟨by decide +kernel, rfl⟩
theorem iX5_reserve_33 : am_at 16 33 (.getfield 15) 3 36 := ⟨by decide +kernel, rfl⟩
theorem iX5_reserve_36 : am_at 16 36 (.iload_n 1) 1 37 := ⟨by decide +kernel, rfl⟩
theorem iX5_reserve_37 : am_at 16 37 (.dup2) 1 38 := ⟨by decide +kernel, rfl⟩
theorem iX5_reserve_38 : am_at 16 38 (.iaload) 1 39 := ⟨by decide +kernel, rfl⟩
theorem iX5_reserve_39 : am_at 16 39 (.iload_n 3) 1 40 := ⟨by decide +kernel, rfl⟩
theorem iX5_reserve_40 : am_at 16 40 (.iadd) 1 41 := ⟨by decide +kernel, rfl⟩
theorem iX5_reserve_41 : am_at 16 41 (.iastore) 1 42 := ⟨by decide +kernel, rfl⟩
theorem iX5_reserve_42 : am_jp 16 42 (.goto 13) 13 55 45 := ⟨by decide +kernel, by decide, rfl⟩
theorem iX5_reserve_45 : am_at 16 45 (.aload_n 0) 1 46 := ⟨by decide +kernel, rfl⟩
theorem iX5_reserve_46 : am_at 16 46 (.getfield 28) 3 49 := ⟨by decide +kernel, rfl⟩
theorem fX5_reserve_28 : am_fld 16 28 5 5 2 := ⟨by decide, rfl, wd_64⟩
theorem iX5_reserve_49 : am_at 16 49 (.iload_n 2) 1 50 := ⟨by decide +kernel, rfl⟩
theorem iX5_reserve_50 : am_at 16 50 (.dup2) 1 51 := ⟨by decide +kernel, rfl⟩
theorem iX5_reserve_51 : am_at 16 51 (.iaload) 1 52 := ⟨by decide +kernel, rfl⟩
theorem iX5_reserve_52 : am_at 16 52 (.iconst 1) 1 53 := ⟨by decide +kernel, rfl⟩
theorem iX5_reserve_53 : am_at 16 53 (.iadd) 1 54 := ⟨by decide +kernel, rfl⟩
theorem iX5_reserve_54 : am_at 16 54 (.iastore) 1 55 := ⟨by decide +kernel, rfl⟩
theorem iX5_reserve_55 : am_at 16 55 (.return_) 1 56 := ⟨by decide +kernel, rfl⟩
theorem iX5_ship_0 : am_at 17 0 (.iload_n 2) 1 1 := ⟨by decide +kernel, rfl⟩
theorem iX5_ship_1 : am_at 17 1 (.bipush 30) 2 3 := ⟨by decide +kernel, rfl⟩
theorem iX5_ship_3 : am_at 17 3 (.imul) 1 4 := ⟨by decide +kernel, rfl⟩
theorem iX5_ship_4 : am_at 17 4 (.iload_n 1) 1 5 := ⟨by decide +kernel, rfl⟩
theorem iX5_ship_5 : am_at 17 5 (.iadd) 1 6 := ⟨by decide +kernel, rfl⟩
theorem iX5_ship_6 : am_at 17 6 (.istore 4) 2 8 := ⟨by decide +kernel, rfl⟩
theorem iX5_ship_8 : am_at 17 8 (.aload_n 0) 1 9 := ⟨by decide +kernel, rfl⟩
theorem iX5_ship_9 : am_at 17 9 (.getfield 31) 3 12 := ⟨by decide +kernel, rfl⟩
theorem fX5_ship_31 : am_fld 17 31 5 6 2 := ⟨by decide, rfl, wd_65⟩
theorem iX5_ship_12 : am_at 17 12 (.iload 4) 2 14 := ⟨by decide +kernel, rfl⟩
theorem iX5_ship_14 : am_at 17 14 (.iaload) 1 15 := ⟨by decide +kernel, rfl⟩
theorem iX5_ship_15 : am_at 17 15 (.iload_n 3) 1 16 := ⟨by decide +kernel, rfl⟩
theorem iX5_ship_16 : am_jp 17 16 (.if_icmp .lt 63) 63 79 19 := ⟨by decide +kernel, by decide, rfl⟩
theorem iX5_ship_19 : am_at 17 19 (.aload_n 0) 1 20 := ⟨by decide +kernel, rfl⟩
theorem iX5_ship_20 : am_at 17 20 (.getfield 31) 3 23 := ⟨by decide +kernel, rfl⟩
theorem iX5_ship_23 : am_at 17 23 (.iload 4) 2 25 := ⟨by decide +kernel, rfl⟩
theorem iX5_ship_25 : am_at 17 25 (.dup2) 1 26 := ⟨by decide +kernel, rfl⟩
theorem iX5_ship_26 : am_at 17 26 (.iaload) 1 27 := ⟨by decide +kernel, rfl⟩
theorem iX5_ship_27 : am_at 17 27 (.iload_n 3) 1 28 := ⟨by decide +kernel, rfl⟩
theorem iX5_ship_28 : am_at 17 28 (.isub) 1 29 := ⟨by decide +kernel, rfl⟩
theorem iX5_ship_29 : am_at 17 29 (.iastore) 1 30 := ⟨by decide +kernel, rfl⟩
theorem iX5_ship_30 : am_at 17 30 (.aload_n 0) 1 31 := ⟨by decide +kernel, rfl⟩
theorem iX5_ship_31 : am_at 17 31 (.getfield 15) 3 34 := ⟨by decide +kernel, rfl⟩
theorem fX5_ship_15 : am_fld 17 15 5 1 2 := ⟨by decide, rfl, wd_60⟩
theorem iX5_ship_34 : am_at 17 34 (.iload_n 1) 1 35 := ⟨by decide +kernel, rfl⟩
theorem iX5_ship_35 : am_at 17 35 (.dup2) 1 36 := ⟨by decide +kernel, rfl⟩
theorem iX5_ship_36 : am_at 17 36 (.iaload) 1 37 := ⟨by decide +kernel, rfl⟩
theorem iX5_ship_37 : am_at 17 37 (.iload_n 3) 1 38 := ⟨by decide +kernel, rfl⟩
theorem iX5_ship_38 : am_at 17 38 (.isub) 1 39 := ⟨by decide +kernel, rfl⟩
theorem iX5_ship_39 : am_at 17 39 (.iastore) 1 40 := ⟨by decide +kernel, rfl⟩
theorem iX5_ship_40 : am_at 17 40 (.aload_n 0) 1 41 := ⟨by decide +kernel, rfl⟩
theorem iX5_ship_41 : am_at 17 41 (.getfield 9) 3 44 := ⟨by decide +kernel, rfl⟩
theorem fX5_ship_9 : am_fld 17 9 5 0 2 := ⟨by decide, rfl, wd_59⟩
theorem iX5_ship_44 : am_at 17 44 (.iload_n 1) 1 45 := ⟨by decide +kernel, rfl⟩
theorem iX5_ship_45 : am_at 17 45 (.dup2) 1 46 := ⟨by decide +kernel, rfl⟩
theorem iX5_ship_46 : am_at 17 46 (.iaload) 1 47 := ⟨by decide +kernel, rfl⟩
theorem iX5_ship_47 : am_at 17 47 (.iload_n 3) 1 48 := ⟨by decide +kernel, rfl⟩
theorem iX5_ship_48 : am_at 17 48 (.isub) 1 49 := ⟨by decide +kernel, rfl⟩
theorem iX5_ship_49 : am_at 17 49 (.iastore) 1 50 := ⟨by decide +kernel, rfl⟩
theorem iX5_ship_50 : am_at 17 50 (.aload_n 0) 1 51 := ⟨by decide +kernel, rfl⟩
theorem iX5_ship_51 : am_at 17 51 (.getfield 18) 3 54 := ⟨by decide +kernel, rfl⟩
theorem fX5_ship_18 : am_fld 17 18 5 2 2 := ⟨by decide, rfl, wd_61⟩
theorem iX5_ship_54 : am_at 17 54 (.iload_n 1) 1 55 := ⟨by decide +kernel, rfl⟩
theorem iX5_ship_55 : am_at 17 55 (.dup2) 1 56 := ⟨by decide +kernel, rfl⟩
theorem iX5_ship_56 : am_at 17 56 (.iaload) 1 57 := ⟨by decide +kernel, rfl⟩
theorem iX5_ship_57 : am_at 17 57 (.iload_n 3) 1 58 := ⟨by decide +kernel, rfl⟩
theorem iX5_ship_58 : am_at 17 58 (.iadd) 1 59 := ⟨by decide +kernel, rfl⟩
theorem iX5_ship_59 : am_at 17 59 (.iastore) 1 60 := ⟨by decide +kernel, rfl⟩
theorem iX5_ship_60 : am_at 17 60 (.aload_n 0) 1 61 := ⟨by decide +kernel, rfl⟩
theorem iX5_ship_61 : am_at 17 61 (.getfield 24) 3 64 := ⟨by decide +kernel, rfl⟩
theorem fX5_ship_24 : am_fld 17 24 5 4 2 := ⟨by decide, rfl, wd_63⟩
theorem iX5_ship_64 : am_at 17 64 (.iload_n 2) 1 65 := ⟨by decide +kernel, rfl⟩
theorem iX5_ship_65 : am_at 17 65 (.dup2) 1 66 := ⟨by decide +kernel, rfl⟩
theorem iX5_ship_66 : am_at 17 66 (.laload) 1 67 := ⟨by decide +kernel, rfl⟩
theorem iX5_ship_67 : am_at 17 67 (.iload_n 3) 1 68 := ⟨by decide +kernel, rfl⟩
theorem iX5_ship_68 : am_at 17 68 (.i2l) 1 69 := ⟨by decide +kernel, rfl⟩
theorem iX5_ship_69 : am_at 17 69 (.aload_n 0) 1 70 := ⟨by decide +kernel, rfl⟩
theorem iX5_ship_70 : am_at 17 70 (.getfield 21) 3 73 := ⟨by decide +kernel, rfl⟩
theorem fX5_ship_21 : am_fld 17 21 5 3 2 := ⟨by decide, rfl, wd_62⟩
theorem iX5_ship_73 : am_at 17 73 (.iload_n 1) 1 74 := ⟨by decide +kernel, rfl⟩
theorem iX5_ship_74 : am_at 17 74 (.iaload) 1 75 := ⟨by decide +kernel, rfl⟩
theorem iX5_ship_75 : am_at 17 75 (.i2l) 1 76 := ⟨by decide +kernel, rfl⟩
theorem iX5_ship_76 : am_at 17 76 (.lmul) 1 77 := ⟨by decide +kernel, rfl⟩
theorem iX5_ship_77 : am_at 17 77 (.ladd) 1 78 := ⟨by decide +kernel, rfl⟩
theorem iX5_ship_78 : am_at 17 78 (.lastore) 1 79 := ⟨by decide +kernel, rfl⟩
theorem iX5_ship_79 : am_at 17 79 (.return_) 1 80 := ⟨by decide +kernel, rfl⟩
theorem iX5_release_0 : am_at 18 0 (.iload_n 2) 1 1 := ⟨by decide +kernel, rfl⟩
theorem iX5_release_1 : am_at 18 1 (.bipush 30) 2 3 := ⟨by decide +kernel, rfl⟩
theorem iX5_release_3 : am_at 18 3 (.imul) 1 4 := ⟨by decide +kernel, rfl⟩
theorem iX5_release_4 : am_at 18 4 (.iload_n 1) 1 5 := ⟨by decide +kernel, rfl⟩
theorem iX5_release_5 : am_at 18 5 (.iadd) 1 6 := ⟨by decide +kernel, rfl⟩
theorem iX5_release_6 : am_at 18 6 (.istore 4) 2 8 := ⟨by decide +kernel, rfl⟩
theorem iX5_release_8 : am_at 18 8 (.iload_n 3) 1 9 := ⟨by decide +kernel, rfl⟩
theorem iX5_release_9 : am_at 18 9 (.aload_n 0) 1 10 := ⟨by decide +kernel, rfl⟩
theorem iX5_release_10 : am_at 18 10 (.getfield 31) 3 13 := ⟨by decide +kernel, rfl⟩
theorem fX5_release_31 : am_fld 18 31 5 6 2 := ⟨by decide, rfl, wd_65⟩
theorem iX5_release_13 : am_at 18 13 (.iload 4) 2 15 := ⟨by decide +kernel, rfl⟩
theorem iX5_release_15 : am_at 18 15 (.iaload) 1 16 := ⟨by decide +kernel, rfl⟩
theorem iX5_release_16 : am_at 18 16 (.invokestatic 70) 3 19 := ⟨by decide +kernel, rfl⟩
theorem iX5_release_19 : am_at 18 19 (.istore 5) 2 21 := ⟨by decide +kernel, rfl⟩
theorem iX5_release_21 : am_at 18 21 (.aload_n 0) 1 22 := ⟨by decide +kernel, rfl⟩
theorem iX5_release_22 : am_at 18 22 (.getfield 31) 3 25 := ⟨by decide +kernel, rfl⟩
theorem iX5_release_25 : am_at 18 25 (.iload 4) 2 27 := ⟨by decide +kernel, rfl⟩
theorem iX5_release_27 : am_at 18 27 (.dup2) 1 28 := ⟨by decide +kernel, rfl⟩
theorem iX5_release_28 : am_at 18 28 (.iaload) 1 29 := ⟨by decide +kernel, rfl⟩
theorem iX5_release_29 : am_at 18 29 (.iload 5) 2 31 := ⟨by decide +kernel, rfl⟩
theorem iX5_release_31 : am_at 18 31 (.isub) 1 32 := ⟨by decide +kernel, rfl⟩
theorem iX5_release_32 : am_at 18 32 (.iastore) 1 33 := ⟨by decide +kernel, rfl⟩
theorem iX5_release_33 : am_at 18 33 (.aload_n 0) 1 34 := ⟨by decide +kernel, rfl⟩
theorem iX5_release_34 : am_at 18 34 (.getfield 15) 3 37 := ⟨by decide +kernel, rfl⟩
theorem fX5_release_15 : am_fld 18 15 5 1 2 := ⟨by decide, rfl, wd_60⟩
theorem iX5_release_37 : am_at 18 37 (.iload_n 1) 1 38 := ⟨by decide +kernel, rfl⟩
theorem iX5_release_38 : am_at 18 38 (.dup2) 1 39 := ⟨by decide +kernel, rfl⟩
theorem iX5_release_39 : am_at 18 39 (.iaload) 1 40 := ⟨by decide +kernel, rfl⟩
theorem iX5_release_40 : am_at 18 40 (.iload 5) 2 42 := ⟨by decide +kernel, rfl⟩
theorem iX5_release_42 : am_at 18 42 (.isub) 1 43 := ⟨by decide +kernel, rfl⟩
theorem iX5_release_43 : am_at 18 43 (.iastore) 1 44 := ⟨by decide +kernel, rfl⟩
theorem iX5_release_44 : am_at 18 44 (.return_) 1 45 := ⟨by decide +kernel, rfl⟩
theorem iX5_answerTo_0 : am_at 19 0 (.iload_n 1) 1 1 := ⟨by decide +kernel, rfl⟩
theorem iX5_answerTo_1 : decode (am_b 19) 1 = .ok (.tableswitch 107 0 7 #[47, 55, 63, 71, 79, 86, 92, 100], 47) := by decide +kernel
theorem iX5_answerTo_48 : am_at 19 48 (.aload_n 0) 1 49 := ⟨by decide +kernel, rfl⟩
theorem iX5_answerTo_49 : am_at 19 49 (.getfield 9) 3 52 := ⟨by decide +kernel, rfl⟩
theorem fX5_answerTo_9 : am_fld 19 9 5 0 2 := ⟨by decide, rfl, wd_59⟩
theorem iX5_answerTo_52 : am_at 19 52 (.iload_n 2) 1 53 := ⟨by decide +kernel, rfl⟩
theorem iX5_answerTo_53 : am_at 19 53 (.iaload) 1 54 := ⟨by decide +kernel, rfl⟩
theorem iX5_answerTo_54 : am_at 19 54 (.i2l) 1 55 := ⟨by decide +kernel, rfl⟩
theorem iX5_answerTo_55 : am_at 19 55 (.lreturn) 1 56 := ⟨by decide +kernel, rfl⟩
theorem iX5_answerTo_56 : am_at 19 56 (.aload_n 0) 1 57 := ⟨by decide +kernel, rfl⟩
theorem iX5_answerTo_57 : am_at 19 57 (.getfield 15) 3 60 := ⟨by decide +kernel, rfl⟩
theorem fX5_answerTo_15 : am_fld 19 15 5 1 2 := ⟨by decide, rfl, wd_60⟩
theorem iX5_answerTo_60 : am_at 19 60 (.iload_n 2) 1 61 := ⟨by decide +kernel, rfl⟩
theorem iX5_answerTo_61 : am_at 19 61 (.iaload) 1 62 := ⟨by decide +kernel, rfl⟩
theorem iX5_answerTo_62 : am_at 19 62 (.i2l) 1 63 := ⟨by decide +kernel, rfl⟩
theorem iX5_answerTo_63 : am_at 19 63 (.lreturn) 1 64 := ⟨by decide +kernel, rfl⟩
theorem iX5_answerTo_64 : am_at 19 64 (.aload_n 0) 1 65 := ⟨by decide +kernel, rfl⟩
theorem iX5_answerTo_65 : am_at 19 65 (.getfield 18) 3 68 := ⟨by decide +kernel, rfl⟩
theorem fX5_answerTo_18 : am_fld 19 18 5 2 2 := ⟨by decide, rfl, wd_61⟩
theorem iX5_answerTo_68 : am_at 19 68 (.iload_n 2) 1 69 := ⟨by decide +kernel, rfl⟩
theorem iX5_answerTo_69 : am_at 19 69 (.iaload) 1 70 := ⟨by decide +kernel, rfl⟩
theorem iX5_answerTo_70 : am_at 19 70 (.i2l) 1 71 := ⟨by decide +kernel, rfl⟩
theorem iX5_answerTo_71 : am_at 19 71 (.lreturn) 1 72 := ⟨by decide +kernel, rfl⟩
theorem iX5_answerTo_72 : am_at 19 72 (.aload_n 0) 1 73 := ⟨by decide +kernel, rfl⟩
theorem iX5_answerTo_73 : am_at 19 73 (.getfield 21) 3 76 := ⟨by decide +kernel, rfl⟩
theorem fX5_answerTo_21 : am_fld 19 21 5 3 2 := ⟨by decide, rfl, wd_62⟩
theorem iX5_answerTo_76 : am_at 19 76 (.iload_n 2) 1 77 := ⟨by decide +kernel, rfl⟩
theorem iX5_answerTo_77 : am_at 19 77 (.iaload) 1 78 := ⟨by decide +kernel, rfl⟩
theorem iX5_answerTo_78 : am_at 19 78 (.i2l) 1 79 := ⟨by decide +kernel, rfl⟩
theorem iX5_answerTo_79 : am_at 19 79 (.lreturn) 1 80 := ⟨by decide +kernel, rfl⟩
theorem iX5_answerTo_80 : am_at 19 80 (.aload_n 0) 1 81 := ⟨by decide +kernel, rfl⟩
theorem iX5_answerTo_81 : am_at 19 81 (.getfield 24) 3 84 := ⟨by decide +kernel, rfl⟩
theorem fX5_answerTo_24 : am_fld 19 24 5 4 2 := ⟨by decide, rfl, wd_63⟩
theorem iX5_answerTo_84 : am_at 19 84 (.iload_n 2) 1 85 := ⟨by decide +kernel, rfl⟩
theorem iX5_answerTo_85 : am_at 19 85 (.laload) 1 86 := ⟨by decide +kernel, rfl⟩
theorem iX5_answerTo_86 : am_at 19 86 (.lreturn) 1 87 := ⟨by decide +kernel, rfl⟩
theorem iX5_answerTo_87 : am_at 19 87 (.aload_n 0) 1 88 := ⟨by decide +kernel, rfl⟩
theorem iX5_answerTo_88 : am_at 19 88 (.iload_n 2) 1 89 := ⟨by decide +kernel, rfl⟩
theorem iX5_answerTo_89 : am_at 19 89 (.invokevirtual 76) 3 92 := ⟨by decide +kernel, rfl⟩
theorem cX5_answerTo_76 : am_sV 19 76 20 5 := ⟨wd_308, wd_309, wd_310, rfl, by decide⟩
theorem iX5_answerTo_92 : am_at 19 92 (.lreturn) 1 93 := ⟨by decide +kernel, rfl⟩
theorem iX5_answerTo_93 : am_at 19 93 (.aload_n 0) 1 94 := ⟨by decide +kernel, rfl⟩
theorem iX5_answerTo_94 : am_at 19 94 (.getfield 28) 3 97 := ⟨by decide +kernel, rfl⟩
theorem fX5_answerTo_28 : am_fld 19 28 5 5 2 := ⟨by decide, rfl, wd_64⟩
theorem iX5_answerTo_97 : am_at 19 97 (.iload_n 2) 1 98 := ⟨by decide +kernel, rfl⟩
theorem iX5_answerTo_98 : am_at 19 98 (.iaload) 1 99 := ⟨by decide +kernel, rfl⟩
theorem iX5_answerTo_99 : am_at 19 99 (.i2l) 1 100 := ⟨by decide +kernel, rfl⟩
theorem iX5_answerTo_100 : am_at 19 100 (.lreturn) 1 101 := ⟨by decide +kernel, rfl⟩
theorem iX5_answerTo_101 : am_at 19 101 (.aload_n 0) 1 102 := ⟨by decide +kernel, rfl⟩
theorem iX5_answerTo_102 : am_at 19 102 (.iload_n 2) 1 103 := ⟨by decide +kernel, rfl⟩
theorem iX5_answerTo_103 : am_at 19 103 (.invokevirtual 80) 3 106 := ⟨by decide +kernel, rfl⟩
theorem cX5_answerTo_80 : am_sV 19 80 21 5 := ⟨wd_312, wd_313, wd_314, rfl, by decide⟩
theorem iX5_answerTo_106 : am_at 19 106 (.i2l) 1 107 := ⟨by decide +kernel, rfl⟩
theorem iX5_answerTo_107 : am_at 19 107 (.lreturn) 1 108 := ⟨by decide +kernel, rfl⟩
theorem iX5_answerTo_108 : am_at 19 108 (.aload_n 0) 1 109 := ⟨by decide +kernel, rfl⟩
theorem iX5_answerTo_109 : am_at 19 109 (.iload_n 2) 1 110 := ⟨by decide +kernel, rfl⟩
theorem iX5_answerTo_110 : am_at 19 110 (.iload_n 3) 1 111 := ⟨by decide +kernel, rfl⟩
theorem iX5_answerTo_111 : am_at 19 111 (.invokevirtual 84) 3 114 := ⟨by decide +kernel, rfl⟩
theorem cX5_answerTo_84 : am_sV 19 84 22 5 := ⟨wd_316, wd_317, wd_318, rfl, by decide⟩
theorem iX5_answerTo_114 : am_at 19 114 (.lreturn) 1 115 := ⟨by decide +kernel, rfl⟩
theorem iX5_heldBy_0 : am_at 20 0 (.lconst 0) 1 1 := ⟨by decide +kernel, rfl⟩
theorem iX5_heldBy_1 : am_at 20 1 (.lstore_n 2) 1 2 := ⟨by decide +kernel, rfl⟩
theorem iX5_heldBy_2 : am_at 20 2 (.iconst 0) 1 3 := ⟨by decide +kernel, rfl⟩
theorem iX5_heldBy_3 : am_at 20 3 (.istore 4) 2 5 := ⟨by decide +kernel, rfl⟩
theorem iX5_heldBy_5 : am_at 20 5 (.iload 4) 2 7 := ⟨by decide +kernel, rfl⟩
theorem iX5_heldBy_7 : am_at 20 7 (.bipush 30) 2 9 := ⟨by decide +kernel, rfl⟩
theorem iX5_heldBy_9 : am_jp 20 9 (.if_icmp .ge 25) 25 34 12 := ⟨by decide +kernel, by decide, rfl⟩
theorem iX5_heldBy_12 : am_at 20 12 (.lload_n 2) 1 13 := ⟨by decide +kernel, rfl⟩
theorem iX5_heldBy_13 : am_at 20 13 (.aload_n 0) 1 14 := ⟨by decide +kernel, rfl⟩
theorem iX5_heldBy_14 : am_at 20 14 (.getfield 31) 3 17 := ⟨by decide +kernel, rfl⟩
theorem fX5_heldBy_31 : am_fld 20 31 5 6 2 := ⟨by decide, rfl, wd_65⟩
theorem iX5_heldBy_17 : am_at 20 17 (.iload_n 1) 1 18 := ⟨by decide +kernel, rfl⟩
theorem iX5_heldBy_18 : am_at 20 18 (.bipush 30) 2 20 := ⟨by decide +kernel, rfl⟩
theorem iX5_heldBy_20 : am_at 20 20 (.imul) 1 21 := ⟨by decide +kernel, rfl⟩
theorem iX5_heldBy_21 : am_at 20 21 (.iload 4) 2 23 := ⟨by decide +kernel, rfl⟩
theorem iX5_heldBy_23 : am_at 20 23 (.iadd) 1 24 := ⟨by decide +kernel, rfl⟩
theorem iX5_heldBy_24 : am_at 20 24 (.iaload) 1 25 := ⟨by decide +kernel, rfl⟩
theorem iX5_heldBy_25 : am_at 20 25 (.i2l) 1 26 := ⟨by decide +kernel, rfl⟩
theorem iX5_heldBy_26 : am_at 20 26 (.ladd) 1 27 := ⟨by decide +kernel, rfl⟩
theorem iX5_heldBy_27 : am_at 20 27 (.lstore_n 2) 1 28 := ⟨by decide +kernel, rfl⟩
theorem iX5_heldBy_28 : am_at 20 28 (.iinc 4 1) 3 31 := ⟨by decide +kernel, rfl⟩
theorem iX5_heldBy_31 : am_jp 20 31 (.goto (-26)) (-26) 5 34 := ⟨by decide +kernel, by decide, rfl⟩
theorem iX5_heldBy_34 : am_at 20 34 (.lload_n 2) 1 35 := ⟨by decide +kernel, rfl⟩
theorem iX5_heldBy_35 : am_at 20 35 (.lreturn) 1 36 := ⟨by decide +kernel, rfl⟩
theorem iX5_itemRanked_0 : am_at 21 0 (.iconst 0) 1 1 := ⟨by decide +kernel, rfl⟩
theorem iX5_itemRanked_1 : am_at 21 1 (.istore_n 2) 1 2 := ⟨by decide +kernel, rfl⟩
theorem iX5_itemRanked_2 : am_at 21 2 (.iload_n 2) 1 3 := ⟨by decide +kernel, rfl⟩
theorem iX5_itemRanked_3 : am_at 21 3 (.bipush 30) 2 5 := ⟨by decide +kernel, rfl⟩
theorem iX5_itemRanked_5 : am_jp 21 5 (.if_icmp .ge 92) 92 97 8 := ⟨by decide +kernel, by decide, rfl⟩
theorem iX5_itemRanked_8 : am_at 21 8 (.iconst 0) 1 9 := ⟨by decide +kernel, rfl⟩
theorem iX5_itemRanked_9 : am_at 21 9 (.istore_n 3) 1 10 := ⟨by decide +kernel, rfl⟩
theorem iX5_itemRanked_10 : am_at 21 10 (.iconst 0) 1 11 := ⟨by decide +kernel, rfl⟩
theorem iX5_itemRanked_11 : am_at 21 11 (.istore 4) 2 13 := ⟨by decide +kernel, rfl⟩
theorem iX5_itemRanked_13 : am_at 21 13 (.iload 4) 2 15 := ⟨by decide +kernel, rfl⟩
theorem iX5_itemRanked_15 : am_at 21 15 (.bipush 30) 2 17 := ⟨by decide +kernel, rfl⟩
theorem iX5_itemRanked_17 : am_jp 21 17 (.if_icmp .ge 67) 67 84 20 := ⟨by decide +kernel, by decide, rfl⟩
theorem iX5_itemRanked_20 : am_at 21 20 (.aload_n 0) 1 21 := ⟨by decide +kernel, rfl⟩
theorem iX5_itemRanked_21 : am_at 21 21 (.getfield 18) 3 24 := ⟨by decide +kernel, rfl⟩
theorem fX5_itemRanked_18 : am_fld 21 18 5 2 2 := ⟨by decide, rfl, wd_61⟩
theorem iX5_itemRanked_24 : am_at 21 24 (.iload 4) 2 26 := ⟨by decide +kernel, rfl⟩
theorem iX5_itemRanked_26 : am_at 21 26 (.iaload) 1 27 := ⟨by decide +kernel, rfl⟩
theorem iX5_itemRanked_27 : am_at 21 27 (.aload_n 0) 1 28 := ⟨by decide +kernel, rfl⟩
theorem iX5_itemRanked_28 : am_at 21 28 (.getfield 18) 3 31 := ⟨by decide +kernel, rfl⟩
theorem iX5_itemRanked_31 : am_at 21 31 (.iload_n 2) 1 32 := ⟨by decide +kernel, rfl⟩
theorem iX5_itemRanked_32 : am_at 21 32 (.iaload) 1 33 := ⟨by decide +kernel, rfl⟩
theorem iX5_itemRanked_33 : am_jp 21 33 (.if_icmp .gt 25) 25 58 36 := ⟨by decide +kernel, by decide, rfl⟩
theorem iX5_itemRanked_36 : am_at 21 36 (.aload_n 0) 1 37 := ⟨by decide +kernel, rfl⟩
theorem iX5_itemRanked_37 : am_at 21 37 (.getfield 18) 3 40 := ⟨by decide +kernel, rfl⟩
theorem iX5_itemRanked_40 : am_at 21 40 (.iload 4) 2 42 := ⟨by decide +kernel, rfl⟩
theorem iX5_itemRanked_42 : am_at 21 42 (.iaload) 1 43 := ⟨by decide +kernel, rfl⟩
theorem iX5_itemRanked_43 : am_at 21 43 (.aload_n 0) 1 44 := ⟨by decide +kernel, rfl⟩
theorem iX5_itemRanked_44 : am_at 21 44 (.getfield 18) 3 47 := ⟨by decide +kernel, rfl⟩
theorem iX5_itemRanked_47 : am_at 21 47 (.iload_n 2) 1 48 := ⟨by decide +kernel, rfl⟩
theorem iX5_itemRanked_48 : am_at 21 48 (.iaload) 1 49 := ⟨by decide +kernel, rfl⟩
theorem iX5_itemRanked_49 : am_jp 21 49 (.if_icmp .ne 13) 13 62 52 := ⟨by decide +kernel, by decide, rfl⟩
theorem iX5_itemRanked_52 : am_at 21 52 (.iload 4) 2 54 := ⟨by decide +kernel, rfl⟩
theorem iX5_itemRanked_54 : am_at 21 54 (.iload_n 2) 1 55 := ⟨by decide +kernel, rfl⟩
theorem iX5_itemRanked_55 : am_jp 21 55 (.if_icmp .ge 7) 7 62 58 := ⟨by decide +kernel, by decide, rfl⟩
theorem iX5_itemRanked_58 : am_at 21 58 (.iconst 1) 1 59 := ⟨by decide +kernel, rfl⟩
theorem iX5_itemRanked_59 : am_jp 21 59 (.goto 4) 4 63 62 := ⟨by decide +kernel, by decide, rfl⟩
theorem iX5_itemRanked_62 : am_at 21 62 (.iconst 0) 1 63 := ⟨by decide +kernel, rfl⟩
theorem iX5_itemRanked_63 : am_at 21 63 (.istore 5) 2 65 := ⟨by decide +kernel, rfl⟩
theorem iX5_itemRanked_65 : am_at 21 65 (.iload_n 3) 1 66 := ⟨by decide +kernel, rfl⟩
theorem iX5_itemRanked_66 : am_at 21 66 (.iload 5) 2 68 := ⟨by decide +kernel, rfl⟩
theorem iX5_itemRanked_68 : am_jp 21 68 (.ifCond .eq 7) 7 75 71 := ⟨by decide +kernel, by decide, rfl⟩
theorem iX5_itemRanked_71 : am_at 21 71 (.iconst 1) 1 72 := ⟨by decide +kernel, rfl⟩
theorem iX5_itemRanked_72 : am_jp 21 72 (.goto 4) 4 76 75 := ⟨by decide +kernel, by decide, rfl⟩
theorem iX5_itemRanked_75 : am_at 21 75 (.iconst 0) 1 76 := ⟨by decide +kernel, rfl⟩
theorem iX5_itemRanked_76 : am_at 21 76 (.iadd) 1 77 := ⟨by decide +kernel, rfl⟩
theorem iX5_itemRanked_77 : am_at 21 77 (.istore_n 3) 1 78 := ⟨by decide +kernel, rfl⟩
theorem iX5_itemRanked_78 : am_at 21 78 (.iinc 4 1) 3 81 := ⟨by decide +kernel, rfl⟩
theorem iX5_itemRanked_81 : am_jp 21 81 (.goto (-68)) (-68) 13 84 := ⟨by decide +kernel, by decide, rfl⟩
theorem iX5_itemRanked_84 : am_at 21 84 (.iload_n 3) 1 85 := ⟨by decide +kernel, rfl⟩
theorem iX5_itemRanked_85 : am_at 21 85 (.iload_n 1) 1 86 := ⟨by decide +kernel, rfl⟩
theorem iX5_itemRanked_86 : am_jp 21 86 (.if_icmp .ne 5) 5 91 89 := ⟨by decide +kernel, by decide, rfl⟩
theorem iX5_itemRanked_89 : am_at 21 89 (.iload_n 2) 1 90 := ⟨by decide +kernel, rfl⟩
theorem iX5_itemRanked_90 : am_at 21 90 (.ireturn) 1 91 := ⟨by decide +kernel, rfl⟩
theorem iX5_itemRanked_91 : am_at 21 91 (.iinc 2 1) 3 94 := ⟨by decide +kernel, rfl⟩
theorem iX5_itemRanked_94 : am_jp 21 94 (.goto (-92)) (-92) 2 97 := ⟨by decide +kernel, by decide, rfl⟩
theorem iX5_itemRanked_97 : am_at 21 97 (.iload_n 1) 1 98 := ⟨by decide +kernel, rfl⟩
theorem iX5_itemRanked_98 : am_at 21 98 (.ireturn) 1 99 := ⟨by decide +kernel, rfl⟩
theorem iX5_worth_0 : am_at 22 0 (.lconst 0) 1 1 := ⟨by decide +kernel, rfl⟩
theorem iX5_worth_1 : am_at 22 1 (.lstore_n 3) 1 2 := ⟨by decide +kernel, rfl⟩
theorem iX5_worth_2 : am_at 22 2 (.iconst 0) 1 3 := ⟨by decide +kernel, rfl⟩
theorem iX5_worth_3 : am_at 22 3 (.istore 5) 2 5 := ⟨by decide +kernel, rfl⟩
theorem iX5_worth_5 : am_at 22 5 (.iload 5) 2 7 := ⟨by decide +kernel, rfl⟩
theorem iX5_worth_7 : am_at 22 7 (.bipush 30) 2 9 := ⟨by decide +kernel, rfl⟩
theorem iX5_worth_9 : am_jp 22 9 (.if_icmp .ge 42) 42 51 12 := ⟨by decide +kernel, by decide, rfl⟩
theorem iX5_worth_12 : am_at 22 12 (.iload_n 1) 1 13 := ⟨by decide +kernel, rfl⟩
theorem iX5_worth_13 : am_at 22 13 (.iconst (-1)) 1 14 := ⟨by decide +kernel, rfl⟩
theorem iX5_worth_14 : am_jp 22 14 (.if_icmp .eq 11) 11 25 17 := ⟨by decide +kernel, by decide, rfl⟩
theorem iX5_worth_17 : am_at 22 17 (.iload 5) 2 19 := ⟨by decide +kernel, rfl⟩
theorem iX5_worth_19 : am_at 22 19 (.iload_n 2) 1 20 := ⟨by decide +kernel, rfl⟩
theorem iX5_worth_20 : am_at 22 20 (.irem) 1 21 := ⟨by decide +kernel, rfl⟩
theorem iX5_worth_21 : am_at 22 21 (.iload_n 1) 1 22 := ⟨by decide +kernel, rfl⟩
theorem iX5_worth_22 : am_jp 22 22 (.if_icmp .ne 23) 23 45 25 := ⟨by decide +kernel, by decide, rfl⟩
theorem iX5_worth_25 : am_at 22 25 (.lload_n 3) 1 26 := ⟨by decide +kernel, rfl⟩
theorem iX5_worth_26 : am_at 22 26 (.aload_n 0) 1 27 := ⟨by decide +kernel, rfl⟩
theorem iX5_worth_27 : am_at 22 27 (.getfield 9) 3 30 := ⟨by decide +kernel, rfl⟩
theorem fX5_worth_9 : am_fld 22 9 5 0 2 := ⟨by decide, rfl, wd_59⟩
theorem iX5_worth_30 : am_at 22 30 (.iload 5) 2 32 := ⟨by decide +kernel, rfl⟩
theorem iX5_worth_32 : am_at 22 32 (.iaload) 1 33 := ⟨by decide +kernel, rfl⟩
theorem iX5_worth_33 : am_at 22 33 (.i2l) 1 34 := ⟨by decide +kernel, rfl⟩
theorem iX5_worth_34 : am_at 22 34 (.aload_n 0) 1 35 := ⟨by decide +kernel, rfl⟩
theorem iX5_worth_35 : am_at 22 35 (.getfield 21) 3 38 := ⟨by decide +kernel, rfl⟩
theorem fX5_worth_21 : am_fld 22 21 5 3 2 := ⟨by decide, rfl, wd_62⟩
theorem iX5_worth_38 : am_at 22 38 (.iload 5) 2 40 := ⟨by decide +kernel, rfl⟩
theorem iX5_worth_40 : am_at 22 40 (.iaload) 1 41 := ⟨by decide +kernel, rfl⟩
theorem iX5_worth_41 : am_at 22 41 (.i2l) 1 42 := ⟨by decide +kernel, rfl⟩
theorem iX5_worth_42 : am_at 22 42 (.lmul) 1 43 := ⟨by decide +kernel, rfl⟩
theorem iX5_worth_43 : am_at 22 43 (.ladd) 1 44 := ⟨by decide +kernel, rfl⟩
theorem iX5_worth_44 : am_at 22 44 (.lstore_n 3) 1 45 := ⟨by decide +kernel, rfl⟩
theorem iX5_worth_45 : am_at 22 45 (.iinc 5 1) 3 48 := ⟨by decide +kernel, rfl⟩
theorem iX5_worth_48 : am_jp 22 48 (.goto (-43)) (-43) 5 51 := ⟨by decide +kernel, by decide, rfl⟩
theorem iX5_worth_51 : am_at 22 51 (.lload_n 3) 1 52 := ⟨by decide +kernel, rfl⟩
theorem iX5_worth_52 : am_at 22 52 (.lreturn) 1 53 := ⟨by decide +kernel, rfl⟩
theorem iX6_init_0 : am_at 23 0 (.aload_n 0) 1 1 := ⟨by decide +kernel, rfl⟩
theorem iX6_init_1 : am_at 23 1 (.invokespecial 1) 3 4 := ⟨by decide +kernel, rfl⟩
theorem iX6_init_4 : am_at 23 4 (.iload_n 1) 1 5 := ⟨by decide +kernel, rfl⟩
theorem iX6_init_5 : am_at 23 5 (.iconst 1) 1 6 := ⟨by decide +kernel, rfl⟩
theorem iX6_init_6 : am_jp 23 6 (.if_icmp .lt 12) 12 18 9 := ⟨by decide +kernel, by decide, rfl⟩
theorem iX6_init_9 : am_at 23 9 (.iload_n 1) 1 10 := ⟨by decide +kernel, rfl⟩
theorem iX6_init_10 : am_at 23 10 (.iconst 3) 1 11 := ⟨by decide +kernel, rfl⟩
theorem iX6_init_11 : am_jp 23 11 (.if_icmp .gt 7) 7 18 14 := ⟨by decide +kernel, by decide, rfl⟩
theorem iX6_init_14 : am_at 23 14 (.iload_n 1) 1 15 := ⟨by decide +kernel, rfl⟩
theorem iX6_init_15 : am_jp 23 15 (.goto 4) 4 19 18 := ⟨by decide +kernel, by decide, rfl⟩
theorem iX6_init_18 : am_at 23 18 (.iconst 2) 1 19 := ⟨by decide +kernel, rfl⟩
theorem iX6_init_19 : am_at 23 19 (.istore_n 3) 1 20 := ⟨by decide +kernel, rfl⟩
theorem iX6_init_20 : am_at 23 20 (.iload_n 2) 1 21 := ⟨by decide +kernel, rfl⟩
theorem iX6_init_21 : am_at 23 21 (.iconst 1) 1 22 := ⟨by decide +kernel, rfl⟩
theorem iX6_init_22 : am_jp 23 22 (.if_icmp .lt 12) 12 34 25 := ⟨by decide +kernel, by decide, rfl⟩
theorem iX6_init_25 : am_at 23 25 (.iload_n 2) 1 26 := ⟨by decide +kernel, rfl⟩
theorem iX6_init_26 : am_at 23 26 (.iconst 4) 1 27 := ⟨by decide +kernel, rfl⟩
theorem iX6_init_27 : am_jp 23 27 (.if_icmp .gt 7) 7 34 30 := ⟨by decide +kernel, by decide, rfl⟩
theorem iX6_init_30 : am_at 23 30 (.iload_n 2) 1 31 := ⟨by decide +kernel, rfl⟩
theorem iX6_init_31 : am_jp 23 31 (.goto 4) 4 35 34 := ⟨by decide +kernel, by decide, rfl⟩
theorem iX6_init_34 : am_at 23 34 (.iconst 2) 1 35 := ⟨by decide +kernel, rfl⟩
theorem iX6_init_35 : am_at 23 35 (.istore 4) 2 37 := ⟨by decide +kernel, rfl⟩
theorem iX6_init_37 : am_at 23 37 (.aload_n 0) 1 38 := ⟨by decide +kernel, rfl⟩
theorem iX6_init_38 : am_at 23 38 (.iload_n 3) 1 39 := ⟨by decide +kernel, rfl⟩
theorem iX6_init_39 : am_at 23 39 (.anewarray 9) 3 42 := ⟨by decide +kernel, rfl⟩
theorem iX6_init_42 : am_at 23 42 (.putfield 11) 3 45 := ⟨by decide +kernel, rfl⟩
theorem fX6_init_11 : am_fld 23 11 6 0 2 := ⟨by decide, rfl, wd_134⟩
theorem iX6_init_45 : am_at 23 45 (.iconst 0) 1 46 := ⟨by decide +kernel, rfl⟩
theorem iX6_init_46 : am_at 23 46 (.istore 5) 2 48 := ⟨by decide +kernel, rfl⟩
theorem iX6_init_48 : am_at 23 48 (.iload 5) 2 50 := ⟨by decide +kernel, rfl⟩
theorem iX6_init_50 : am_at 23 50 (.iload_n 3) 1 51 := ⟨by decide +kernel, rfl⟩
theorem iX6_init_51 : am_jp 23 51 (.if_icmp .ge 23) 23 74 54 := ⟨by decide +kernel, by decide, rfl⟩
theorem iX6_init_54 : am_at 23 54 (.aload_n 0) 1 55 := ⟨by decide +kernel, rfl⟩
theorem iX6_init_55 : am_at 23 55 (.getfield 11) 3 58 := ⟨by decide +kernel, rfl⟩
theorem iX6_init_58 : am_at 23 58 (.iload 5) 2 60 := ⟨by decide +kernel, rfl⟩
theorem iX6_init_60 : am_at 23 60 (.new 9) 3 63 := ⟨by decide +kernel, rfl⟩
theorem iX6_init_63 : am_at 23 63 (.dup) 1 64 := ⟨by decide +kernel, rfl⟩
theorem iX6_init_64 : am_at 23 64 (.invokespecial 15) 3 67 := ⟨by decide +kernel, rfl⟩
theorem cX6_init_15 : am_sI 23 15 1 := ⟨Or.inr ⟨_, wd_28⟩, wd_29, rfl, wd_30⟩
theorem iX6_init_67 : am_at 23 67 (.aastore) 1 68 := ⟨by decide +kernel, rfl⟩
theorem iX6_init_68 : am_at 23 68 (.iinc 5 1) 3 71 := ⟨by decide +kernel, rfl⟩
theorem iX6_init_71 : am_jp 23 71 (.goto (-23)) (-23) 48 74 := ⟨by decide +kernel, by decide, rfl⟩
theorem iX6_init_74 : am_at 23 74 (.aload_n 0) 1 75 := ⟨by decide +kernel, rfl⟩
theorem iX6_init_75 : am_at 23 75 (.iload 4) 2 77 := ⟨by decide +kernel, rfl⟩
theorem iX6_init_77 : am_at 23 77 (.anewarray 16) 3 80 := ⟨by decide +kernel, rfl⟩
theorem iX6_init_80 : am_at 23 80 (.putfield 18) 3 83 := ⟨by decide +kernel, rfl⟩
theorem fX6_init_18 : am_fld 23 18 6 1 2 := ⟨by decide, rfl, wd_135⟩
theorem iX6_init_83 : am_at 23 83 (.iconst 0) 1 84 := ⟨by decide +kernel, rfl⟩
theorem iX6_init_84 : am_at 23 84 (.istore 5) 2 86 := ⟨by decide +kernel, rfl⟩
theorem iX6_init_86 : am_at 23 86 (.iload 5) 2 88 := ⟨by decide +kernel, rfl⟩
theorem iX6_init_88 : am_at 23 88 (.iload 4) 2 90 := ⟨by decide +kernel, rfl⟩
theorem iX6_init_90 : am_jp 23 90 (.if_icmp .ge 23) 23 113 93 := ⟨by decide +kernel, by decide, rfl⟩
theorem iX6_init_93 : am_at 23 93 (.aload_n 0) 1 94 := ⟨by decide +kernel, rfl⟩
theorem iX6_init_94 : am_at 23 94 (.getfield 18) 3 97 := ⟨by decide +kernel, rfl⟩
theorem iX6_init_97 : am_at 23 97 (.iload 5) 2 99 := ⟨by decide +kernel, rfl⟩
theorem iX6_init_99 : am_at 23 99 (.new 16) 3 102 := ⟨by decide +kernel, rfl⟩
theorem iX6_init_102 : am_at 23 102 (.dup) 1 103 := ⟨by decide +kernel, rfl⟩
theorem iX6_init_103 : am_at 23 103 (.invokespecial 22) 3 106 := ⟨by decide +kernel, rfl⟩
theorem cX6_init_22 : am_sI 23 22 6 := ⟨Or.inr ⟨_, wd_49⟩, wd_50, rfl, wd_51⟩
theorem iX6_init_106 : am_at 23 106 (.aastore) 1 107 := ⟨by decide +kernel, rfl⟩
theorem iX6_init_107 : am_at 23 107 (.iinc 5 1) 3 110 := ⟨by decide +kernel, rfl⟩
theorem iX6_init_110 : am_jp 23 110 (.goto (-24)) (-24) 86 113 := ⟨by decide +kernel, by decide, rfl⟩
theorem iX6_init_113 : am_at 23 113 (.aload_n 0) 1 114 := ⟨by decide +kernel, rfl⟩
theorem iX6_init_114 : am_at 23 114 (.bipush 8) 2 116 := ⟨by decide +kernel, rfl⟩
theorem iX6_init_116 : am_at 23 116 (.anewarray 23) 3 119 := ⟨by decide +kernel, rfl⟩
theorem iX6_init_119 : am_at 23 119 (.putfield 25) 3 122 := ⟨by decide +kernel, rfl⟩
theorem fX6_init_25 : am_fld 23 25 6 2 2 := ⟨by decide, rfl, wd_136⟩
theorem iX6_init_122 : am_at 23 122 (.iconst 0) 1 123 := ⟨by decide +kernel, rfl⟩
theorem iX6_init_123 : am_at 23 123 (.istore 5) 2 125 := ⟨by decide +kernel, rfl⟩
theorem iX6_init_125 : am_at 23 125 (.iload 5) 2 127 := ⟨by decide +kernel, rfl⟩
theorem iX6_init_127 : am_at 23 127 (.bipush 8) 2 129 := ⟨by decide +kernel, rfl⟩
theorem iX6_init_129 : am_jp 23 129 (.if_icmp .ge 23) 23 152 132 := ⟨by decide +kernel, by decide, rfl⟩
theorem iX6_init_132 : am_at 23 132 (.aload_n 0) 1 133 := ⟨by decide +kernel, rfl⟩
theorem iX6_init_133 : am_at 23 133 (.getfield 25) 3 136 := ⟨by decide +kernel, rfl⟩
theorem iX6_init_136 : am_at 23 136 (.iload 5) 2 138 := ⟨by decide +kernel, rfl⟩
theorem iX6_init_138 : am_at 23 138 (.new 23) 3 141 := ⟨by decide +kernel, rfl⟩
theorem iX6_init_141 : am_at 23 141 (.dup) 1 142 := ⟨by decide +kernel, rfl⟩
theorem iX6_init_142 : am_at 23 142 (.invokespecial 29) 3 145 := ⟨by decide +kernel, rfl⟩
theorem cX6_init_29 : am_sI 23 29 9 := ⟨Or.inr ⟨_, wd_112⟩, wd_113, rfl, wd_114⟩
theorem iX6_init_145 : am_at 23 145 (.aastore) 1 146 := ⟨by decide +kernel, rfl⟩
theorem iX6_init_146 : am_at 23 146 (.iinc 5 1) 3 149 := ⟨by decide +kernel, rfl⟩
theorem iX6_init_149 : am_jp 23 149 (.goto (-24)) (-24) 125 152 := ⟨by decide +kernel, by decide, rfl⟩
theorem iX6_init_152 : am_at 23 152 (.aload_n 0) 1 153 := ⟨by decide +kernel, rfl⟩
theorem iX6_init_153 : am_at 23 153 (.sipush 500) 3 156 := ⟨by decide +kernel, rfl⟩
theorem iX6_init_156 : am_at 23 156 (.anewarray 30) 3 159 := ⟨by decide +kernel, rfl⟩
theorem iX6_init_159 : am_at 23 159 (.putfield 32) 3 162 := ⟨by decide +kernel, rfl⟩
theorem fX6_init_32 : am_fld 23 32 6 3 2 := ⟨by decide, rfl, wd_137⟩
theorem iX6_init_162 : am_at 23 162 (.aload_n 0) 1 163 := ⟨by decide +kernel, rfl⟩
theorem iX6_init_163 : am_at 23 163 (.bipush 40) 2 165 := ⟨by decide +kernel, rfl⟩
theorem iX6_init_165 : am_at 23 165 (.anewarray 30) 3 168 := ⟨by decide +kernel, rfl⟩
theorem iX6_init_168 : am_at 23 168 (.putfield 36) 3 171 := ⟨by decide +kernel, rfl⟩
theorem fX6_init_36 : am_fld 23 36 6 4 2 := ⟨by decide, rfl, wd_138⟩
theorem iX6_init_171 : am_at 23 171 (.return_) 1 172 := ⟨by decide +kernel, rfl⟩
end
section
theorem iX6_mode_0 : am_at 24 0 (.iload_n 1) 1 1 := ⟨by decide +kernel, rfl⟩
theorem iX6_mode_1 : am_at 24 1 (.bipush 8) 2 3 := ⟨by decide +kernel, rfl⟩
theorem iX6_mode_3 : am_at 24 3 (.invokestatic 39) 3 6 := ⟨by decide +kernel, rfl⟩
theorem cX6_mode_39 : am_sS 24 39 44 := ⟨wd_192, wd_193, wd_1⟩
theorem iX6_mode_6 : am_at 24 6 (.iload_n 2) 1 7 := ⟨by decide +kernel, rfl⟩
theorem iX6_mode_7 : am_at 24 7 (.iconst 0) 1 8 := ⟨by decide +kernel, rfl⟩
theorem iX6_mode_8 : am_at 24 8 (.bipush 15) 2 10 := ⟨by decide +kernel, rfl⟩
theorem iX6_mode_10 : am_at 24 10 (.invokestatic 43) 3 13 := ⟨by decide +kernel, rfl⟩
theorem cX6_mode_43 : am_sS 24 43 45 := ⟨wd_263, wd_264, wd_1⟩
theorem iX6_mode_13 : am_at 24 13 (.aload_n 0) 1 14 := ⟨by decide +kernel, rfl⟩
theorem iX6_mode_14 : am_at 24 14 (.getfield 25) 3 17 := ⟨by decide +kernel, rfl⟩
theorem fX6_mode_25 : am_fld 24 25 6 2 2 := ⟨by decide, rfl, wd_136⟩
theorem iX6_mode_17 : am_at 24 17 (.iload_n 1) 1 18 := ⟨by decide +kernel, rfl⟩
theorem iX6_mode_18 : am_at 24 18 (.aaload) 1 19 := ⟨by decide +kernel, rfl⟩
theorem iX6_mode_19 : am_at 24 19 (.astore_n 3) 1 20 := ⟨by decide +kernel, rfl⟩
theorem iX6_mode_20 : am_at 24 20 (.aload_n 3) 1 21 := ⟨by decide +kernel, rfl⟩
theorem iX6_mode_21 : am_at 24 21 (.getfield 47) 3 24 := ⟨by decide +kernel, rfl⟩
theorem fX6_mode_47 : am_fld 24 47 4 2 0 := ⟨by decide, rfl, wd_121⟩
theorem iX6_mode_24 : am_at 24 24 (.istore 4) 2 26 := ⟨by decide +kernel, rfl⟩
theorem iX6_mode_26 : am_at 24 26 (.aload_n 3) 1 27 := ⟨by decide +kernel, rfl⟩
theorem iX6_mode_27 : am_at 24 27 (.iload_n 2) 1 28 := ⟨by decide +kernel, rfl⟩
theorem iX6_mode_28 : am_at 24 28 (.putfield 47) 3 31 := ⟨by decide +kernel, rfl⟩
theorem iX6_mode_31 : am_at 24 31 (.iload 4) 2 33 := ⟨by decide +kernel, rfl⟩
theorem iX6_mode_33 : am_at 24 33 (.iload_n 2) 1 34 := ⟨by decide +kernel, rfl⟩
theorem iX6_mode_34 : am_jp 24 34 (.if_icmp .eq 28) 28 62 37 := ⟨by decide +kernel, by decide, rfl⟩
theorem iX6_mode_37 : am_at 24 37 (.iconst 0) 1 38 := ⟨by decide +kernel, rfl⟩
theorem iX6_mode_38 : am_at 24 38 (.istore 5) 2 40 := ⟨by decide +kernel, rfl⟩
theorem iX6_mode_40 : am_at 24 40 (.iload 5) 2 42 := ⟨by decide +kernel, rfl⟩
theorem iX6_mode_42 : am_at 24 42 (.aload_n 0) 1 43 := ⟨by decide +kernel, rfl⟩
theorem iX6_mode_43 : am_at 24 43 (.getfield 18) 3 46 := ⟨by decide +kernel, rfl⟩
theorem fX6_mode_18 : am_fld 24 18 6 1 2 := ⟨by decide, rfl, wd_135⟩
theorem iX6_mode_46 : am_at 24 46 (.arraylength) 1 47 := ⟨by decide +kernel, rfl⟩
theorem iX6_mode_47 : am_jp 24 47 (.if_icmp .ge 15) 15 62 50 := ⟨by decide +kernel, by decide, rfl⟩
theorem iX6_mode_50 : am_at 24 50 (.aload_n 0) 1 51 := ⟨by decide +kernel, rfl⟩
theorem iX6_mode_51 : am_at 24 51 (.iload 5) 2 53 := ⟨by decide +kernel, rfl⟩
theorem iX6_mode_53 : am_at 24 53 (.invokevirtual 51) 3 56 := ⟨by decide +kernel, rfl⟩
theorem cX6_mode_51 : am_sV 24 51 60 6 := ⟨wd_282, wd_284, wp_2, rfl, by decide⟩
theorem iX6_mode_56 : am_at 24 56 (.iinc 5 1) 3 59 := ⟨by decide +kernel, rfl⟩
theorem iX6_mode_59 : am_jp 24 59 (.goto (-19)) (-19) 40 62 := ⟨by decide +kernel, by decide, rfl⟩
theorem iX6_mode_62 : am_at 24 62 (.iload 4) 2 64 := ⟨by decide +kernel, rfl⟩
theorem iX6_mode_64 : am_at 24 64 (.ireturn) 1 65 := ⟨by decide +kernel, rfl⟩
theorem iX6_home_0 : am_at 25 0 (.iload_n 1) 1 1 := ⟨by decide +kernel, rfl⟩
theorem iX6_home_1 : am_at 25 1 (.bipush 8) 2 3 := ⟨by decide +kernel, rfl⟩
theorem iX6_home_3 : am_at 25 3 (.invokestatic 39) 3 6 := ⟨by decide +kernel, rfl⟩
theorem cX6_home_39 : am_sS 25 39 44 := ⟨wd_192, wd_193, wd_1⟩
theorem iX6_home_6 : am_at 25 6 (.iload_n 2) 1 7 := ⟨by decide +kernel, rfl⟩
theorem iX6_home_7 : am_at 25 7 (.aload_n 0) 1 8 := ⟨by decide +kernel, rfl⟩
theorem iX6_home_8 : am_at 25 8 (.getfield 18) 3 11 := ⟨by decide +kernel, rfl⟩
theorem fX6_home_18 : am_fld 25 18 6 1 2 := ⟨by decide, rfl, wd_135⟩
theorem iX6_home_11 : am_at 25 11 (.arraylength) 1 12 := ⟨by decide +kernel, rfl⟩
theorem iX6_home_12 : am_at 25 12 (.invokestatic 39) 3 15 := ⟨by decide +kernel, rfl⟩
theorem iX6_home_15 : am_at 25 15 (.aload_n 0) 1 16 := ⟨by decide +kernel, rfl⟩
theorem iX6_home_16 : am_at 25 16 (.getfield 25) 3 19 := ⟨by decide +kernel, rfl⟩
theorem fX6_home_25 : am_fld 25 25 6 2 2 := ⟨by decide, rfl, wd_136⟩
theorem iX6_home_19 : am_at 25 19 (.iload_n 1) 1 20 := ⟨by decide +kernel, rfl⟩
theorem iX6_home_20 : am_at 25 20 (.aaload) 1 21 := ⟨by decide +kernel, rfl⟩
theorem iX6_home_21 : am_at 25 21 (.getfield 55) 3 24 := ⟨by decide +kernel, rfl⟩
theorem fX6_home_55 : am_fld 25 55 4 3 0 := ⟨by decide, rfl, wd_122⟩
theorem iX6_home_24 : am_at 25 24 (.istore_n 3) 1 25 := ⟨by decide +kernel, rfl⟩
theorem iX6_home_25 : am_at 25 25 (.aload_n 0) 1 26 := ⟨by decide +kernel, rfl⟩
theorem iX6_home_26 : am_at 25 26 (.getfield 25) 3 29 := ⟨by decide +kernel, rfl⟩
theorem iX6_home_29 : am_at 25 29 (.iload_n 1) 1 30 := ⟨by decide +kernel, rfl⟩
theorem iX6_home_30 : am_at 25 30 (.aaload) 1 31 := ⟨by decide +kernel, rfl⟩
theorem iX6_home_31 : am_at 25 31 (.iload_n 2) 1 32 := ⟨by decide +kernel, rfl⟩
theorem iX6_home_32 : am_at 25 32 (.putfield 55) 3 35 := ⟨by decide +kernel, rfl⟩
theorem iX6_home_35 : am_at 25 35 (.iload_n 3) 1 36 := ⟨by decide +kernel, rfl⟩
theorem iX6_home_36 : am_at 25 36 (.ireturn) 1 37 := ⟨by decide +kernel, rfl⟩
theorem iX6_command_0 : am_at 26 0 (.iload_n 1) 1 1 := ⟨by decide +kernel, rfl⟩
theorem iX6_command_1 : am_at 26 1 (.bipush 8) 2 3 := ⟨by decide +kernel, rfl⟩
theorem iX6_command_3 : am_at 26 3 (.invokestatic 39) 3 6 := ⟨by decide +kernel, rfl⟩
theorem cX6_command_39 : am_sS 26 39 44 := ⟨wd_192, wd_193, wd_1⟩
theorem iX6_command_6 : am_at 26 6 (.iload_n 3) 1 7 := ⟨by decide +kernel, rfl⟩
theorem iX6_command_7 : am_at 26 7 (.bipush 30) 2 9 := ⟨by decide +kernel, rfl⟩
theorem iX6_command_9 : am_at 26 9 (.invokestatic 39) 3 12 := ⟨by decide +kernel, rfl⟩
theorem iX6_command_12 : am_at 26 12 (.iload 4) 2 14 := ⟨by decide +kernel, rfl⟩
theorem iX6_command_14 : am_at 26 14 (.bipush 10) 2 16 := ⟨by decide +kernel, rfl⟩
theorem iX6_command_16 : am_at 26 16 (.invokestatic 39) 3 19 := ⟨by decide +kernel, rfl⟩
theorem iX6_command_19 : am_at 26 19 (.iload_n 2) 1 20 := ⟨by decide +kernel, rfl⟩
theorem iX6_command_20 : am_at 26 20 (.iconst 0) 1 21 := ⟨by decide +kernel, rfl⟩
theorem iX6_command_21 : am_at 26 21 (.iconst 4) 1 22 := ⟨by decide +kernel, rfl⟩
theorem iX6_command_22 : am_at 26 22 (.invokestatic 43) 3 25 := ⟨by decide +kernel, rfl⟩
theorem cX6_command_43 : am_sS 26 43 45 := ⟨wd_263, wd_264, wd_1⟩
theorem iX6_command_25 : am_at 26 25 (.iload 5) 2 27 := ⟨by decide +kernel, rfl⟩
theorem iX6_command_27 : am_at 26 27 (.iconst 1) 1 28 := ⟨by decide +kernel, rfl⟩
theorem iX6_command_28 : am_at 26 28 (.sipush 1000) 3 31 := ⟨by decide +kernel, rfl⟩
theorem iX6_command_31 : am_at 26 31 (.invokestatic 43) 3 34 := ⟨by decide +kernel, rfl⟩
theorem iX6_command_34 : am_at 26 34 (.iload_n 3) 1 35 := ⟨by decide +kernel, rfl⟩
theorem iX6_command_35 : am_at 26 35 (.aload_n 0) 1 36 := ⟨by decide +kernel, rfl⟩
theorem iX6_command_36 : am_at 26 36 (.getfield 11) 3 39 := ⟨by decide +kernel, rfl⟩
theorem fX6_command_11 : am_fld 26 11 6 0 2 := ⟨by decide, rfl, wd_134⟩
theorem iX6_command_39 : am_at 26 39 (.arraylength) 1 40 := ⟨by decide +kernel, rfl⟩
theorem iX6_command_40 : am_at 26 40 (.irem) 1 41 := ⟨by decide +kernel, rfl⟩
theorem iX6_command_41 : am_at 26 41 (.istore 6) 2 43 := ⟨by decide +kernel, rfl⟩
theorem iX6_command_43 : am_at 26 43 (.aload_n 0) 1 44 := ⟨by decide +kernel, rfl⟩
theorem iX6_command_44 : am_at 26 44 (.getfield 11) 3 47 := ⟨by decide +kernel, rfl⟩
theorem iX6_command_47 : am_at 26 47 (.iload 6) 2 49 := ⟨by decide +kernel, rfl⟩
theorem iX6_command_49 : am_at 26 49 (.aaload) 1 50 := ⟨by decide +kernel, rfl⟩
theorem iX6_command_50 : am_at 26 50 (.astore 7) 2 52 := ⟨by decide +kernel, rfl⟩
theorem iX6_command_52 : am_at 26 52 (.aload 7) 2 54 := ⟨by decide +kernel, rfl⟩
theorem iX6_command_54 : am_at 26 54 (.getfield 58) 3 57 := ⟨by decide +kernel, rfl⟩
theorem fX6_command_58 : am_fld 26 58 1 1 0 := ⟨by decide, rfl, wd_36⟩
theorem iX6_command_57 : am_at 26 57 (.sipush 400) 3 60 := ⟨by decide +kernel, rfl⟩
theorem iX6_command_60 : am_jp 26 60 (.if_icmp .lt 13) 13 73 63 := ⟨by decide +kernel, by decide, rfl⟩
theorem tX6_command_63 : am_tw 26 10 61 63 65 "the log is full" := ⟨by decide, by decide, by decide +kernel, wd_351, wd_13, wd_360, by decide +kernel, by decide +kernel, by decide +kernel⟩
theorem iX6_command_63 : decode (am_b 26) 63 = .ok (.new 61, 3) := by decide +kernel
theorem iX6_command_66 : decode (am_b 26) 66 = .ok (.dup, 1) := by decide +kernel
theorem iX6_command_67 : decode (am_b 26) 67 = .ok (.ldc 63, 2) := by decide +kernel
theorem iX6_command_69 : decode (am_b 26) 69 = .ok (.invokespecial 65, 3) := by decide +kernel
theorem iX6_command_72 : decode (am_b 26) 72 = .ok (.athrow, 1) := by decide +kernel
theorem iX6_command_73 : am_at 26 73 (.aload_n 0) 1 74 := ⟨by decide +kernel, rfl⟩
theorem iX6_command_74 : am_at 26 74 (.getfield 25) 3 77 := ⟨by decide +kernel, rfl⟩
theorem fX6_command_25 : am_fld 26 25 6 2 2 := ⟨by decide, rfl, wd_136⟩
theorem iX6_command_77 : am_at 26 77 (.iload_n 1) 1 78 := ⟨by decide +kernel, rfl⟩
theorem iX6_command_78 : am_at 26 78 (.aaload) 1 79 := ⟨by decide +kernel, rfl⟩
theorem iX6_command_79 : am_at 26 79 (.astore 8) 2 81 := ⟨by decide +kernel, rfl⟩
theorem iX6_command_81 : am_at 26 81 (.aload 8) 2 83 := ⟨by decide +kernel, rfl⟩
theorem iX6_command_83 : am_at 26 83 (.invokevirtual 68) 3 86 := ⟨by decide +kernel, rfl⟩
theorem cX6_command_68 : am_sV 26 68 10 4 := ⟨wd_367, wd_368, wd_369, rfl, by decide⟩
theorem iX6_command_86 : am_at 26 86 (.astore 9) 2 88 := ⟨by decide +kernel, rfl⟩
theorem iX6_command_88 : am_at 26 88 (.aload 7) 2 90 := ⟨by decide +kernel, rfl⟩
theorem iX6_command_90 : am_at 26 90 (.new 72) 3 93 := ⟨by decide +kernel, rfl⟩
theorem iX6_command_93 : am_at 26 93 (.dup) 1 94 := ⟨by decide +kernel, rfl⟩
theorem iX6_command_94 : am_at 26 94 (.iload_n 2) 1 95 := ⟨by decide +kernel, rfl⟩
theorem iX6_command_95 : am_at 26 95 (.iload_n 3) 1 96 := ⟨by decide +kernel, rfl⟩
theorem iX6_command_96 : am_at 26 96 (.iload 4) 2 98 := ⟨by decide +kernel, rfl⟩
theorem iX6_command_98 : am_at 26 98 (.iload 5) 2 100 := ⟨by decide +kernel, rfl⟩
theorem iX6_command_100 : am_at 26 100 (.aload 9) 2 102 := ⟨by decide +kernel, rfl⟩
theorem iX6_command_102 : am_at 26 102 (.invokespecial 74) 3 105 := ⟨by decide +kernel, rfl⟩
theorem cX6_command_74 : am_sI 26 74 0 := ⟨Or.inl wd_373, wd_374, rfl, wd_375⟩
theorem iX6_command_105 : am_at 26 105 (.invokevirtual 77) 3 108 := ⟨by decide +kernel, rfl⟩
theorem cX6_command_77 : am_sV 26 77 3 1 := ⟨wd_402, wd_403, wd_404, rfl, by decide⟩
theorem iX6_command_108 : am_at 26 108 (.aload 8) 2 110 := ⟨by decide +kernel, rfl⟩
theorem iX6_command_110 : am_at 26 110 (.getfield 81) 3 113 := ⟨by decide +kernel, rfl⟩
theorem fX6_command_81 : am_fld 26 81 4 0 2 := ⟨by decide, rfl, wd_117⟩
theorem iX6_command_113 : am_at 26 113 (.iload 6) 2 115 := ⟨by decide +kernel, rfl⟩
theorem iX6_command_115 : am_at 26 115 (.aload 7) 2 117 := ⟨by decide +kernel, rfl⟩
theorem iX6_command_117 : am_at 26 117 (.getfield 58) 3 120 := ⟨by decide +kernel, rfl⟩
theorem iX6_command_120 : am_at 26 120 (.iastore) 1 121 := ⟨by decide +kernel, rfl⟩
theorem iX6_command_121 : am_at 26 121 (.aload 9) 2 123 := ⟨by decide +kernel, rfl⟩
theorem iX6_command_123 : am_at 26 123 (.iload 6) 2 125 := ⟨by decide +kernel, rfl⟩
theorem iX6_command_125 : am_at 26 125 (.aload 7) 2 127 := ⟨by decide +kernel, rfl⟩
theorem iX6_command_127 : am_at 26 127 (.getfield 58) 3 130 := ⟨by decide +kernel, rfl⟩
theorem iX6_command_130 : am_at 26 130 (.invokestatic 85) 3 133 := ⟨by decide +kernel, rfl⟩
theorem cX6_command_85 : am_sS 26 85 51 := ⟨wd_406, wd_407, wd_1⟩
theorem iX6_command_133 : am_at 26 133 (.invokestatic 89) 3 136 := ⟨by decide +kernel, rfl⟩
theorem cX6_command_89 : am_sS 26 89 49 := ⟨wd_320, wd_321, wd_1⟩
theorem iX6_command_136 : am_at 26 136 (.lreturn) 1 137 := ⟨by decide +kernel, rfl⟩
theorem iX6_step_0 : am_at 27 0 (.iload_n 1) 1 1 := ⟨by decide +kernel, rfl⟩
theorem iX6_step_1 : am_at 27 1 (.aload_n 0) 1 2 := ⟨by decide +kernel, rfl⟩
theorem iX6_step_2 : am_at 27 2 (.getfield 18) 3 5 := ⟨by decide +kernel, rfl⟩
theorem fX6_step_18 : am_fld 27 18 6 1 2 := ⟨by decide, rfl, wd_135⟩
theorem iX6_step_5 : am_at 27 5 (.arraylength) 1 6 := ⟨by decide +kernel, rfl⟩
theorem iX6_step_6 : am_at 27 6 (.invokestatic 39) 3 9 := ⟨by decide +kernel, rfl⟩
theorem cX6_step_39 : am_sS 27 39 44 := ⟨wd_192, wd_193, wd_1⟩
theorem iX6_step_9 : am_at 27 9 (.iload_n 2) 1 10 := ⟨by decide +kernel, rfl⟩
theorem iX6_step_10 : am_at 27 10 (.aload_n 0) 1 11 := ⟨by decide +kernel, rfl⟩
theorem iX6_step_11 : am_at 27 11 (.getfield 11) 3 14 := ⟨by decide +kernel, rfl⟩
theorem fX6_step_11 : am_fld 27 11 6 0 2 := ⟨by decide, rfl, wd_134⟩
theorem iX6_step_14 : am_at 27 14 (.arraylength) 1 15 := ⟨by decide +kernel, rfl⟩
theorem iX6_step_15 : am_at 27 15 (.invokestatic 39) 3 18 := ⟨by decide +kernel, rfl⟩
theorem iX6_step_18 : am_at 27 18 (.aload_n 0) 1 19 := ⟨by decide +kernel, rfl⟩
theorem iX6_step_19 : am_at 27 19 (.getfield 18) 3 22 := ⟨by decide +kernel, rfl⟩
theorem iX6_step_22 : am_at 27 22 (.iload_n 1) 1 23 := ⟨by decide +kernel, rfl⟩
theorem iX6_step_23 : am_at 27 23 (.aaload) 1 24 := ⟨by decide +kernel, rfl⟩
theorem iX6_step_24 : am_at 27 24 (.getfield 93) 3 27 := ⟨by decide +kernel, rfl⟩
theorem fX6_step_93 : am_fld 27 93 3 6 0 := ⟨by decide, rfl, wd_93⟩
theorem iX6_step_27 : am_jp 27 27 (.ifCond .eq 12) 12 39 30 := ⟨by decide +kernel, by decide, rfl⟩
theorem iX6_step_30 : am_at 27 30 (.aload_n 0) 1 31 := ⟨by decide +kernel, rfl⟩
theorem iX6_step_31 : am_at 27 31 (.iload_n 1) 1 32 := ⟨by decide +kernel, rfl⟩
theorem iX6_step_32 : am_at 27 32 (.iload_n 2) 1 33 := ⟨by decide +kernel, rfl⟩
theorem iX6_step_33 : am_at 27 33 (.invokevirtual 97) 3 36 := ⟨by decide +kernel, rfl⟩
theorem cX6_step_97 : am_sV 27 97 55 6 := ⟨wd_423, wd_425, wp_7, rfl, by decide⟩
theorem iX6_step_36 : am_jp 27 36 (.goto 5) 5 41 39 := ⟨by decide +kernel, by decide, rfl⟩
theorem iX6_step_39 : am_at 27 39 (.bipush (-2)) 2 41 := ⟨by decide +kernel, rfl⟩
theorem iX6_step_41 : am_at 27 41 (.ireturn) 1 42 := ⟨by decide +kernel, rfl⟩
theorem iX6_speed_0 : am_at 28 0 (.iload_n 1) 1 1 := ⟨by decide +kernel, rfl⟩
theorem iX6_speed_1 : am_at 28 1 (.aload_n 0) 1 2 := ⟨by decide +kernel, rfl⟩
theorem iX6_speed_2 : am_at 28 2 (.getfield 18) 3 5 := ⟨by decide +kernel, rfl⟩
theorem fX6_speed_18 : am_fld 28 18 6 1 2 := ⟨by decide, rfl, wd_135⟩
theorem iX6_speed_5 : am_at 28 5 (.arraylength) 1 6 := ⟨by decide +kernel, rfl⟩
theorem iX6_speed_6 : am_at 28 6 (.invokestatic 39) 3 9 := ⟨by decide +kernel, rfl⟩
theorem cX6_speed_39 : am_sS 28 39 44 := ⟨wd_192, wd_193, wd_1⟩
theorem iX6_speed_9 : am_at 28 9 (.iload_n 2) 1 10 := ⟨by decide +kernel, rfl⟩
theorem iX6_speed_10 : am_at 28 10 (.iconst 0) 1 11 := ⟨by decide +kernel, rfl⟩
theorem iX6_speed_11 : am_at 28 11 (.bipush 10) 2 13 := ⟨by decide +kernel, rfl⟩
theorem iX6_speed_13 : am_at 28 13 (.invokestatic 43) 3 16 := ⟨by decide +kernel, rfl⟩
theorem cX6_speed_43 : am_sS 28 43 45 := ⟨wd_263, wd_264, wd_1⟩
theorem iX6_speed_16 : am_at 28 16 (.aload_n 0) 1 17 := ⟨by decide +kernel, rfl⟩
theorem iX6_speed_17 : am_at 28 17 (.getfield 18) 3 20 := ⟨by decide +kernel, rfl⟩
theorem iX6_speed_20 : am_at 28 20 (.iload_n 1) 1 21 := ⟨by decide +kernel, rfl⟩
theorem iX6_speed_21 : am_at 28 21 (.aaload) 1 22 := ⟨by decide +kernel, rfl⟩
theorem iX6_speed_22 : am_at 28 22 (.getfield 101) 3 25 := ⟨by decide +kernel, rfl⟩
theorem fX6_speed_101 : am_fld 28 101 3 4 0 := ⟨by decide, rfl, wd_90⟩
theorem iX6_speed_25 : am_at 28 25 (.istore_n 3) 1 26 := ⟨by decide +kernel, rfl⟩
theorem iX6_speed_26 : am_at 28 26 (.aload_n 0) 1 27 := ⟨by decide +kernel, rfl⟩
theorem iX6_speed_27 : am_at 28 27 (.getfield 18) 3 30 := ⟨by decide +kernel, rfl⟩
theorem iX6_speed_30 : am_at 28 30 (.iload_n 1) 1 31 := ⟨by decide +kernel, rfl⟩
theorem iX6_speed_31 : am_at 28 31 (.aaload) 1 32 := ⟨by decide +kernel, rfl⟩
theorem iX6_speed_32 : am_at 28 32 (.iload_n 2) 1 33 := ⟨by decide +kernel, rfl⟩
theorem iX6_speed_33 : am_at 28 33 (.putfield 101) 3 36 := ⟨by decide +kernel, rfl⟩
theorem iX6_speed_36 : am_at 28 36 (.iload_n 3) 1 37 := ⟨by decide +kernel, rfl⟩
theorem iX6_speed_37 : am_at 28 37 (.ireturn) 1 38 := ⟨by decide +kernel, rfl⟩
theorem iX6_ticks_0 : am_at 29 0 (.iload_n 1) 1 1 := ⟨by decide +kernel, rfl⟩
theorem iX6_ticks_1 : am_at 29 1 (.iconst 0) 1 2 := ⟨by decide +kernel, rfl⟩
theorem iX6_ticks_2 : am_at 29 2 (.bipush 100) 2 4 := ⟨by decide +kernel, rfl⟩
theorem iX6_ticks_4 : am_at 29 4 (.invokestatic 43) 3 7 := ⟨by decide +kernel, rfl⟩
theorem cX6_ticks_43 : am_sS 29 43 45 := ⟨wd_263, wd_264, wd_1⟩
theorem iX6_ticks_7 : am_at 29 7 (.iconst 0) 1 8 := ⟨by decide +kernel, rfl⟩
theorem iX6_ticks_8 : am_at 29 8 (.istore_n 2) 1 9 := ⟨by decide +kernel, rfl⟩
theorem iX6_ticks_9 : am_at 29 9 (.iconst 0) 1 10 := ⟨by decide +kernel, rfl⟩
theorem iX6_ticks_10 : am_at 29 10 (.istore_n 3) 1 11 := ⟨by decide +kernel, rfl⟩
theorem iX6_ticks_11 : am_at 29 11 (.iload_n 3) 1 12 := ⟨by decide +kernel, rfl⟩
theorem iX6_ticks_12 : am_at 29 12 (.iload_n 1) 1 13 := ⟨by decide +kernel, rfl⟩
theorem iX6_ticks_13 : am_jp 29 13 (.if_icmp .ge 64) 64 77 16 := ⟨by decide +kernel, by decide, rfl⟩
theorem iX6_ticks_16 : am_at 29 16 (.aload_n 0) 1 17 := ⟨by decide +kernel, rfl⟩
theorem iX6_ticks_17 : am_at 29 17 (.dup) 1 18 := ⟨by decide +kernel, rfl⟩
theorem iX6_ticks_18 : am_at 29 18 (.getfield 104) 3 21 := ⟨by decide +kernel, rfl⟩
theorem fX6_ticks_104 : am_fld 29 104 6 9 0 := ⟨by decide, rfl, wd_143⟩
theorem iX6_ticks_21 : am_at 29 21 (.iconst 1) 1 22 := ⟨by decide +kernel, rfl⟩
theorem iX6_ticks_22 : am_at 29 22 (.iadd) 1 23 := ⟨by decide +kernel, rfl⟩
theorem iX6_ticks_23 : am_at 29 23 (.putfield 104) 3 26 := ⟨by decide +kernel, rfl⟩
theorem iX6_ticks_26 : am_at 29 26 (.iconst 0) 1 27 := ⟨by decide +kernel, rfl⟩
theorem iX6_ticks_27 : am_at 29 27 (.istore 4) 2 29 := ⟨by decide +kernel, rfl⟩
theorem iX6_ticks_29 : am_at 29 29 (.iload 4) 2 31 := ⟨by decide +kernel, rfl⟩
theorem iX6_ticks_31 : am_at 29 31 (.aload_n 0) 1 32 := ⟨by decide +kernel, rfl⟩
theorem iX6_ticks_32 : am_at 29 32 (.getfield 18) 3 35 := ⟨by decide +kernel, rfl⟩
theorem fX6_ticks_18 : am_fld 29 18 6 1 2 := ⟨by decide, rfl, wd_135⟩
theorem iX6_ticks_35 : am_at 29 35 (.arraylength) 1 36 := ⟨by decide +kernel, rfl⟩
theorem iX6_ticks_36 : am_jp 29 36 (.if_icmp .ge 31) 31 67 39 := ⟨by decide +kernel, by decide, rfl⟩
theorem iX6_ticks_39 : am_at 29 39 (.aload_n 0) 1 40 := ⟨by decide +kernel, rfl⟩
theorem iX6_ticks_40 : am_at 29 40 (.getfield 18) 3 43 := ⟨by decide +kernel, rfl⟩
theorem iX6_ticks_43 : am_at 29 43 (.iload 4) 2 45 := ⟨by decide +kernel, rfl⟩
theorem iX6_ticks_45 : am_at 29 45 (.aaload) 1 46 := ⟨by decide +kernel, rfl⟩
theorem iX6_ticks_46 : am_at 29 46 (.getfield 93) 3 49 := ⟨by decide +kernel, rfl⟩
theorem fX6_ticks_93 : am_fld 29 93 3 6 0 := ⟨by decide, rfl, wd_93⟩
theorem iX6_ticks_49 : am_jp 29 49 (.ifCond .eq 12) 12 61 52 := ⟨by decide +kernel, by decide, rfl⟩
theorem iX6_ticks_52 : am_at 29 52 (.iload_n 2) 1 53 := ⟨by decide +kernel, rfl⟩
theorem iX6_ticks_53 : am_at 29 53 (.aload_n 0) 1 54 := ⟨by decide +kernel, rfl⟩
theorem iX6_ticks_54 : am_at 29 54 (.iload 4) 2 56 := ⟨by decide +kernel, rfl⟩
theorem iX6_ticks_56 : am_at 29 56 (.invokevirtual 107) 3 59 := ⟨by decide +kernel, rfl⟩
theorem cX6_ticks_107 : am_sV 29 107 56 6 := ⟨wd_470, wd_472, wp_8, rfl, by decide⟩
theorem iX6_ticks_59 : am_at 29 59 (.iadd) 1 60 := ⟨by decide +kernel, rfl⟩
theorem iX6_ticks_60 : am_at 29 60 (.istore_n 2) 1 61 := ⟨by decide +kernel, rfl⟩
theorem iX6_ticks_61 : am_at 29 61 (.iinc 4 1) 3 64 := ⟨by decide +kernel, rfl⟩
theorem iX6_ticks_64 : am_jp 29 64 (.goto (-35)) (-35) 29 67 := ⟨by decide +kernel, by decide, rfl⟩
theorem iX6_ticks_67 : am_at 29 67 (.aload_n 0) 1 68 := ⟨by decide +kernel, rfl⟩
theorem iX6_ticks_68 : am_at 29 68 (.invokevirtual 111) 3 71 := ⟨by decide +kernel, rfl⟩
theorem cX6_ticks_111 : am_sV 29 111 61 6 := ⟨wd_474, wd_476, wp_9, rfl, by decide⟩
theorem iX6_ticks_71 : am_at 29 71 (.iinc 3 1) 3 74 := ⟨by decide +kernel, rfl⟩
theorem iX6_ticks_74 : am_jp 29 74 (.goto (-63)) (-63) 11 77 := ⟨by decide +kernel, by decide, rfl⟩
theorem iX6_ticks_77 : am_at 29 77 (.iload_n 2) 1 78 := ⟨by decide +kernel, rfl⟩
theorem iX6_ticks_78 : am_at 29 78 (.ireturn) 1 79 := ⟨by decide +kernel, rfl⟩
theorem iX6_up_0 : am_at 30 0 (.iload_n 1) 1 1 := ⟨by decide +kernel, rfl⟩
theorem iX6_up_1 : am_at 30 1 (.aload_n 0) 1 2 := ⟨by decide +kernel, rfl⟩
theorem iX6_up_2 : am_at 30 2 (.getfield 18) 3 5 := ⟨by decide +kernel, rfl⟩
theorem fX6_up_18 : am_fld 30 18 6 1 2 := ⟨by decide, rfl, wd_135⟩
theorem iX6_up_5 : am_at 30 5 (.arraylength) 1 6 := ⟨by decide +kernel, rfl⟩
theorem iX6_up_6 : am_at 30 6 (.invokestatic 39) 3 9 := ⟨by decide +kernel, rfl⟩
theorem cX6_up_39 : am_sS 30 39 44 := ⟨wd_192, wd_193, wd_1⟩
theorem iX6_up_9 : am_at 30 9 (.aload_n 0) 1 10 := ⟨by decide +kernel, rfl⟩
theorem iX6_up_10 : am_at 30 10 (.getfield 18) 3 13 := ⟨by decide +kernel, rfl⟩
theorem iX6_up_13 : am_at 30 13 (.iload_n 1) 1 14 := ⟨by decide +kernel, rfl⟩
theorem iX6_up_14 : am_at 30 14 (.aaload) 1 15 := ⟨by decide +kernel, rfl⟩
theorem iX6_up_15 : am_at 30 15 (.getfield 93) 3 18 := ⟨by decide +kernel, rfl⟩
theorem fX6_up_93 : am_fld 30 93 3 6 0 := ⟨by decide, rfl, wd_93⟩
theorem iX6_up_18 : am_at 30 18 (.istore_n 3) 1 19 := ⟨by decide +kernel, rfl⟩
theorem iX6_up_19 : am_at 30 19 (.aload_n 0) 1 20 := ⟨by decide +kernel, rfl⟩
theorem iX6_up_20 : am_at 30 20 (.getfield 18) 3 23 := ⟨by decide +kernel, rfl⟩
theorem iX6_up_23 : am_at 30 23 (.iload_n 1) 1 24 := ⟨by decide +kernel, rfl⟩
theorem iX6_up_24 : am_at 30 24 (.aaload) 1 25 := ⟨by decide +kernel, rfl⟩
theorem iX6_up_25 : am_at 30 25 (.iload_n 2) 1 26 := ⟨by decide +kernel, rfl⟩
theorem iX6_up_26 : am_at 30 26 (.putfield 93) 3 29 := ⟨by decide +kernel, rfl⟩
theorem iX6_up_29 : am_at 30 29 (.iload_n 2) 1 30 := ⟨by decide +kernel, rfl⟩
theorem iX6_up_30 : am_jp 30 30 (.ifCond .eq 12) 12 42 33 := ⟨by decide +kernel, by decide, rfl⟩
theorem iX6_up_33 : am_at 30 33 (.iload_n 3) 1 34 := ⟨by decide +kernel, rfl⟩
theorem iX6_up_34 : am_jp 30 34 (.ifCond .ne 8) 8 42 37 := ⟨by decide +kernel, by decide, rfl⟩
theorem iX6_up_37 : am_at 30 37 (.aload_n 0) 1 38 := ⟨by decide +kernel, rfl⟩
theorem iX6_up_38 : am_at 30 38 (.iload_n 1) 1 39 := ⟨by decide +kernel, rfl⟩
theorem iX6_up_39 : am_at 30 39 (.invokevirtual 51) 3 42 := ⟨by decide +kernel, rfl⟩
theorem cX6_up_51 : am_sV 30 51 60 6 := ⟨wd_282, wd_284, wp_2, rfl, by decide⟩
theorem iX6_up_42 : am_at 30 42 (.iload_n 3) 1 43 := ⟨by decide +kernel, rfl⟩
theorem iX6_up_43 : am_at 30 43 (.ireturn) 1 44 := ⟨by decide +kernel, rfl⟩
theorem iX6_snapshot_0 : am_at 31 0 (.iload_n 1) 1 1 := ⟨by decide +kernel, rfl⟩
theorem iX6_snapshot_1 : am_at 31 1 (.aload_n 0) 1 2 := ⟨by decide +kernel, rfl⟩
theorem iX6_snapshot_2 : am_at 31 2 (.getfield 18) 3 5 := ⟨by decide +kernel, rfl⟩
theorem fX6_snapshot_18 : am_fld 31 18 6 1 2 := ⟨by decide, rfl, wd_135⟩
theorem iX6_snapshot_5 : am_at 31 5 (.arraylength) 1 6 := ⟨by decide +kernel, rfl⟩
theorem iX6_snapshot_6 : am_at 31 6 (.invokestatic 39) 3 9 := ⟨by decide +kernel, rfl⟩
theorem cX6_snapshot_39 : am_sS 31 39 44 := ⟨wd_192, wd_193, wd_1⟩
theorem iX6_snapshot_9 : am_at 31 9 (.aload_n 0) 1 10 := ⟨by decide +kernel, rfl⟩
theorem iX6_snapshot_10 : am_at 31 10 (.getfield 18) 3 13 := ⟨by decide +kernel, rfl⟩
theorem iX6_snapshot_13 : am_at 31 13 (.iload_n 1) 1 14 := ⟨by decide +kernel, rfl⟩
theorem iX6_snapshot_14 : am_at 31 14 (.aaload) 1 15 := ⟨by decide +kernel, rfl⟩
theorem iX6_snapshot_15 : am_at 31 15 (.astore_n 2) 1 16 := ⟨by decide +kernel, rfl⟩
theorem iX6_snapshot_16 : am_at 31 16 (.aload_n 2) 1 17 := ⟨by decide +kernel, rfl⟩
theorem iX6_snapshot_17 : am_at 31 17 (.invokevirtual 114) 3 20 := ⟨by decide +kernel, rfl⟩
theorem cX6_snapshot_114 : am_sV 31 114 7 3 := ⟨wd_496, wd_497, wd_498, rfl, by decide⟩
theorem iX6_snapshot_20 : am_at 31 20 (.aload_n 2) 1 21 := ⟨by decide +kernel, rfl⟩
theorem iX6_snapshot_21 : am_at 31 21 (.getfield 117) 3 24 := ⟨by decide +kernel, rfl⟩
theorem fX6_snapshot_117 : am_fld 31 117 3 3 2 := ⟨by decide, rfl, wd_89⟩
theorem iX6_snapshot_24 : am_at 31 24 (.invokestatic 120) 3 27 := ⟨by decide +kernel, rfl⟩
theorem cX6_snapshot_120 : am_sS 31 120 53 := ⟨wd_508, wd_509, wd_1⟩
theorem iX6_snapshot_27 : am_at 31 27 (.ireturn) 1 28 := ⟨by decide +kernel, rfl⟩
theorem iX6_crash_0 : am_at 32 0 (.iload_n 1) 1 1 := ⟨by decide +kernel, rfl⟩
theorem iX6_crash_1 : am_at 32 1 (.aload_n 0) 1 2 := ⟨by decide +kernel, rfl⟩
theorem iX6_crash_2 : am_at 32 2 (.getfield 18) 3 5 := ⟨by decide +kernel, rfl⟩
theorem fX6_crash_18 : am_fld 32 18 6 1 2 := ⟨by decide, rfl, wd_135⟩
theorem iX6_crash_5 : am_at 32 5 (.arraylength) 1 6 := ⟨by decide +kernel, rfl⟩
theorem iX6_crash_6 : am_at 32 6 (.invokestatic 39) 3 9 := ⟨by decide +kernel, rfl⟩
theorem cX6_crash_39 : am_sS 32 39 44 := ⟨wd_192, wd_193, wd_1⟩
theorem iX6_crash_9 : am_at 32 9 (.aload_n 0) 1 10 := ⟨by decide +kernel, rfl⟩
theorem iX6_crash_10 : am_at 32 10 (.getfield 18) 3 13 := ⟨by decide +kernel, rfl⟩
theorem iX6_crash_13 : am_at 32 13 (.iload_n 1) 1 14 := ⟨by decide +kernel, rfl⟩
theorem iX6_crash_14 : am_at 32 14 (.aaload) 1 15 := ⟨by decide +kernel, rfl⟩
theorem iX6_crash_15 : am_at 32 15 (.astore_n 2) 1 16 := ⟨by decide +kernel, rfl⟩
theorem iX6_crash_16 : am_at 32 16 (.aload_n 2) 1 17 := ⟨by decide +kernel, rfl⟩
theorem iX6_crash_17 : am_at 32 17 (.getfield 124) 3 20 := ⟨by decide +kernel, rfl⟩
theorem fX6_crash_124 : am_fld 32 124 3 2 2 := ⟨by decide, rfl, wd_87⟩
theorem iX6_crash_20 : am_at 32 20 (.invokestatic 120) 3 23 := ⟨by decide +kernel, rfl⟩
theorem cX6_crash_120 : am_sS 32 120 53 := ⟨wd_508, wd_509, wd_1⟩
theorem iX6_crash_23 : am_at 32 23 (.aload_n 2) 1 24 := ⟨by decide +kernel, rfl⟩
theorem iX6_crash_24 : am_at 32 24 (.getfield 117) 3 27 := ⟨by decide +kernel, rfl⟩
theorem fX6_crash_117 : am_fld 32 117 3 3 2 := ⟨by decide, rfl, wd_89⟩
theorem iX6_crash_27 : am_at 32 27 (.invokestatic 120) 3 30 := ⟨by decide +kernel, rfl⟩
theorem iX6_crash_30 : am_at 32 30 (.isub) 1 31 := ⟨by decide +kernel, rfl⟩
theorem iX6_crash_31 : am_at 32 31 (.istore_n 3) 1 32 := ⟨by decide +kernel, rfl⟩
theorem iX6_crash_32 : am_at 32 32 (.aload_n 2) 1 33 := ⟨by decide +kernel, rfl⟩
theorem iX6_crash_33 : am_at 32 33 (.invokevirtual 127) 3 36 := ⟨by decide +kernel, rfl⟩
theorem cX6_crash_127 : am_sV 32 127 8 3 := ⟨wd_518, wd_519, wd_520, rfl, by decide⟩
theorem iX6_crash_36 : am_at 32 36 (.iload_n 3) 1 37 := ⟨by decide +kernel, rfl⟩
theorem iX6_crash_37 : am_at 32 37 (.ireturn) 1 38 := ⟨by decide +kernel, rfl⟩
theorem iX6_trim_0 : am_at 33 0 (.iconst 0) 1 1 := ⟨by decide +kernel, rfl⟩
theorem iX6_trim_1 : am_at 33 1 (.istore_n 1) 1 2 := ⟨by decide +kernel, rfl⟩
theorem iX6_trim_2 : am_at 33 2 (.iconst 0) 1 3 := ⟨by decide +kernel, rfl⟩
theorem iX6_trim_3 : am_at 33 3 (.istore_n 2) 1 4 := ⟨by decide +kernel, rfl⟩
theorem iX6_trim_4 : am_at 33 4 (.iload_n 2) 1 5 := ⟨by decide +kernel, rfl⟩
theorem iX6_trim_5 : am_at 33 5 (.aload_n 0) 1 6 := ⟨by decide +kernel, rfl⟩
theorem iX6_trim_6 : am_at 33 6 (.getfield 11) 3 9 := ⟨by decide +kernel, rfl⟩
theorem fX6_trim_11 : am_fld 33 11 6 0 2 := ⟨by decide, rfl, wd_134⟩
theorem iX6_trim_9 : am_at 33 9 (.arraylength) 1 10 := ⟨by decide +kernel, rfl⟩
theorem iX6_trim_10 : am_jp 33 10 (.if_icmp .ge 26) 26 36 13 := ⟨by decide +kernel, by decide, rfl⟩
theorem iX6_trim_13 : am_at 33 13 (.iload_n 1) 1 14 := ⟨by decide +kernel, rfl⟩
theorem iX6_trim_14 : am_at 33 14 (.aload_n 0) 1 15 := ⟨by decide +kernel, rfl⟩
theorem iX6_trim_15 : am_at 33 15 (.getfield 11) 3 18 := ⟨by decide +kernel, rfl⟩
theorem iX6_trim_18 : am_at 33 18 (.iload_n 2) 1 19 := ⟨by decide +kernel, rfl⟩
theorem iX6_trim_19 : am_at 33 19 (.aaload) 1 20 := ⟨by decide +kernel, rfl⟩
theorem iX6_trim_20 : am_at 33 20 (.aload_n 0) 1 21 := ⟨by decide +kernel, rfl⟩
theorem iX6_trim_21 : am_at 33 21 (.iload_n 2) 1 22 := ⟨by decide +kernel, rfl⟩
theorem iX6_trim_22 : am_at 33 22 (.invokevirtual 130) 3 25 := ⟨by decide +kernel, rfl⟩
theorem cX6_trim_130 : am_sV 33 130 54 6 := ⟨wd_169, wd_171, wp_0, rfl, by decide⟩
theorem iX6_trim_25 : am_at 33 25 (.invokevirtual 133) 3 28 := ⟨by decide +kernel, rfl⟩
theorem cX6_trim_133 : am_sV 33 133 4 1 := ⟨wd_176, wd_177, wd_178, rfl, by decide⟩
theorem iX6_trim_28 : am_at 33 28 (.iadd) 1 29 := ⟨by decide +kernel, rfl⟩
theorem iX6_trim_29 : am_at 33 29 (.istore_n 1) 1 30 := ⟨by decide +kernel, rfl⟩
theorem iX6_trim_30 : am_at 33 30 (.iinc 2 1) 3 33 := ⟨by decide +kernel, rfl⟩
theorem iX6_trim_33 : am_jp 33 33 (.goto (-29)) (-29) 4 36 := ⟨by decide +kernel, by decide, rfl⟩
theorem iX6_trim_36 : am_at 33 36 (.iload_n 1) 1 37 := ⟨by decide +kernel, rfl⟩
theorem iX6_trim_37 : am_at 33 37 (.ireturn) 1 38 := ⟨by decide +kernel, rfl⟩
theorem iX6_ask_0 : am_at 34 0 (.iload_n 1) 1 1 := ⟨by decide +kernel, rfl⟩
theorem iX6_ask_1 : am_at 34 1 (.bipush 8) 2 3 := ⟨by decide +kernel, rfl⟩
theorem iX6_ask_3 : am_at 34 3 (.invokestatic 39) 3 6 := ⟨by decide +kernel, rfl⟩
theorem cX6_ask_39 : am_sS 34 39 44 := ⟨wd_192, wd_193, wd_1⟩
theorem iX6_ask_6 : am_at 34 6 (.aload_n 0) 1 7 := ⟨by decide +kernel, rfl⟩
theorem iX6_ask_7 : am_at 34 7 (.iload 6) 2 9 := ⟨by decide +kernel, rfl⟩
theorem iX6_ask_9 : am_at 34 9 (.iload 7) 2 11 := ⟨by decide +kernel, rfl⟩
theorem iX6_ask_11 : am_at 34 11 (.invokevirtual 136) 3 14 := ⟨by decide +kernel, rfl⟩
theorem cX6_ask_136 : am_sV 34 136 46 6 := ⟨wd_529, wd_531, wp_11, rfl, by decide⟩
theorem iX6_ask_14 : am_at 34 14 (.aload_n 0) 1 15 := ⟨by decide +kernel, rfl⟩
theorem iX6_ask_15 : am_at 34 15 (.lload_n 2) 1 16 := ⟨by decide +kernel, rfl⟩
theorem iX6_ask_16 : am_at 34 16 (.invokevirtual 139) 3 19 := ⟨by decide +kernel, rfl⟩
theorem cX6_ask_139 : am_sV 34 139 47 6 := ⟨wd_533, wd_535, wp_12, rfl, by decide⟩
theorem iX6_ask_19 : am_at 34 19 (.iload 4) 2 21 := ⟨by decide +kernel, rfl⟩
theorem iX6_ask_21 : am_at 34 21 (.iconst (-1)) 1 22 := ⟨by decide +kernel, rfl⟩
theorem iX6_ask_22 : am_at 34 22 (.sipush 400) 3 25 := ⟨by decide +kernel, rfl⟩
theorem iX6_ask_25 : am_at 34 25 (.invokestatic 43) 3 28 := ⟨by decide +kernel, rfl⟩
theorem cX6_ask_43 : am_sS 34 43 45 := ⟨wd_263, wd_264, wd_1⟩
theorem iX6_ask_28 : am_at 34 28 (.iload 5) 2 30 := ⟨by decide +kernel, rfl⟩
theorem iX6_ask_30 : am_at 34 30 (.iconst 0) 1 31 := ⟨by decide +kernel, rfl⟩
theorem iX6_ask_31 : am_at 34 31 (.sipush 1000) 3 34 := ⟨by decide +kernel, rfl⟩
theorem iX6_ask_34 : am_at 34 34 (.invokestatic 43) 3 37 := ⟨by decide +kernel, rfl⟩
theorem iX6_ask_37 : am_at 34 37 (.aload_n 0) 1 38 := ⟨by decide +kernel, rfl⟩
theorem iX6_ask_38 : am_at 34 38 (.getfield 143) 3 41 := ⟨by decide +kernel, rfl⟩
theorem fX6_ask_143 : am_fld 34 143 6 5 0 := ⟨by decide, rfl, wd_139⟩
theorem iX6_ask_41 : am_at 34 41 (.sipush 500) 3 44 := ⟨by decide +kernel, rfl⟩
theorem iX6_ask_44 : am_jp 34 44 (.if_icmp .lt 13) 13 57 47 := ⟨by decide +kernel, by decide, rfl⟩
theorem tX6_ask_47 : am_tw 34 10 61 146 65 "there were as many reads as there may be" := ⟨by decide, by decide, by decide +kernel, wd_351, wd_13, wd_541, by decide +kernel, by decide +kernel, by decide +kernel⟩
theorem iX6_ask_47 : decode (am_b 34) 47 = .ok (.new 61, 3) := by decide +kernel
theorem iX6_ask_50 : decode (am_b 34) 50 = .ok (.dup, 1) := by decide +kernel
theorem iX6_ask_51 : decode (am_b 34) 51 = .ok (.ldc 146, 2) := by decide +kernel
theorem iX6_ask_53 : decode (am_b 34) 53 = .ok (.invokespecial 65, 3) := by decide +kernel
theorem iX6_ask_56 : decode (am_b 34) 56 = .ok (.athrow, 1) := by decide +kernel
theorem iX6_ask_57 : am_at 34 57 (.new 30) 3 60 := ⟨by decide +kernel, rfl⟩
theorem iX6_ask_60 : am_at 34 60 (.dup) 1 61 := ⟨by decide +kernel, rfl⟩
theorem iX6_ask_61 : am_at 34 61 (.iload_n 1) 1 62 := ⟨by decide +kernel, rfl⟩
theorem iX6_ask_62 : am_at 34 62 (.lload_n 2) 1 63 := ⟨by decide +kernel, rfl⟩
theorem iX6_ask_63 : am_at 34 63 (.iload 4) 2 65 := ⟨by decide +kernel, rfl⟩
theorem iX6_ask_65 : am_at 34 65 (.aload_n 0) 1 66 := ⟨by decide +kernel, rfl⟩
theorem iX6_ask_66 : am_at 34 66 (.getfield 104) 3 69 := ⟨by decide +kernel, rfl⟩
theorem fX6_ask_104 : am_fld 34 104 6 9 0 := ⟨by decide, rfl, wd_143⟩
theorem iX6_ask_69 : am_at 34 69 (.iload 5) 2 71 := ⟨by decide +kernel, rfl⟩
theorem iX6_ask_71 : am_at 34 71 (.iadd) 1 72 := ⟨by decide +kernel, rfl⟩
theorem iX6_ask_72 : am_at 34 72 (.iload 6) 2 74 := ⟨by decide +kernel, rfl⟩
theorem iX6_ask_74 : am_at 34 74 (.iload 7) 2 76 := ⟨by decide +kernel, rfl⟩
theorem iX6_ask_76 : am_at 34 76 (.invokespecial 148) 3 79 := ⟨by decide +kernel, rfl⟩
theorem cX6_ask_148 : am_sI 34 148 5 := ⟨Or.inl wd_543, wd_544, rfl, wd_545⟩
theorem iX6_ask_79 : am_at 34 79 (.astore 8) 2 81 := ⟨by decide +kernel, rfl⟩
theorem iX6_ask_81 : am_at 34 81 (.aload_n 0) 1 82 := ⟨by decide +kernel, rfl⟩
theorem iX6_ask_82 : am_at 34 82 (.aload 8) 2 84 := ⟨by decide +kernel, rfl⟩
theorem iX6_ask_84 : am_at 34 84 (.invokevirtual 151) 3 87 := ⟨by decide +kernel, rfl⟩
theorem cX6_ask_151 : am_sV 34 151 57 6 := ⟨wd_590, wd_592, wp_13, rfl, by decide⟩
theorem iX6_ask_87 : am_at 34 87 (.istore 9) 2 89 := ⟨by decide +kernel, rfl⟩
theorem iX6_ask_89 : am_at 34 89 (.iload 9) 2 91 := ⟨by decide +kernel, rfl⟩
theorem iX6_ask_91 : am_at 34 91 (.iconst (-1)) 1 92 := ⟨by decide +kernel, rfl⟩
theorem iX6_ask_92 : am_jp 34 92 (.if_icmp .ne 12) 12 104 95 := ⟨by decide +kernel, by decide, rfl⟩
theorem iX6_ask_95 : am_at 34 95 (.iload 5) 2 97 := ⟨by decide +kernel, rfl⟩
theorem iX6_ask_97 : am_jp 34 97 (.ifCond .eq 7) 7 104 100 := ⟨by decide +kernel, by decide, rfl⟩
theorem iX6_ask_100 : am_at 34 100 (.iconst 1) 1 101 := ⟨by decide +kernel, rfl⟩
theorem iX6_ask_101 : am_jp 34 101 (.goto 4) 4 105 104 := ⟨by decide +kernel, by decide, rfl⟩
theorem iX6_ask_104 : am_at 34 104 (.iconst 0) 1 105 := ⟨by decide +kernel, rfl⟩
theorem iX6_ask_105 : am_at 34 105 (.istore 10) 2 107 := ⟨by decide +kernel, rfl⟩
theorem iX6_ask_107 : am_at 34 107 (.iload 10) 2 109 := ⟨by decide +kernel, rfl⟩
theorem iX6_ask_109 : am_jp 34 109 (.ifCond .eq 22) 22 131 112 := ⟨by decide +kernel, by decide, rfl⟩
theorem iX6_ask_112 : am_at 34 112 (.aload_n 0) 1 113 := ⟨by decide +kernel, rfl⟩
theorem iX6_ask_113 : am_at 34 113 (.getfield 155) 3 116 := ⟨by decide +kernel, rfl⟩
theorem fX6_ask_155 : am_fld 34 155 6 6 0 := ⟨by decide, rfl, wd_140⟩
theorem iX6_ask_116 : am_at 34 116 (.bipush 40) 2 118 := ⟨by decide +kernel, rfl⟩
theorem iX6_ask_118 : am_jp 34 118 (.if_icmp .lt 13) 13 131 121 := ⟨by decide +kernel, by decide, rfl⟩
theorem tX6_ask_121 : am_tw 34 10 61 158 65 "as many reads wait as may" := ⟨by decide, by decide, by decide +kernel, wd_351, wd_13, wd_594, by decide +kernel, by decide +kernel, by decide +kernel⟩
theorem iX6_ask_121 : decode (am_b 34) 121 = .ok (.new 61, 3) := by decide +kernel
theorem iX6_ask_124 : decode (am_b 34) 124 = .ok (.dup, 1) := by decide +kernel
theorem iX6_ask_125 : decode (am_b 34) 125 = .ok (.ldc 158, 2) := by decide +kernel
theorem iX6_ask_127 : decode (am_b 34) 127 = .ok (.invokespecial 65, 3) := by decide +kernel
theorem iX6_ask_130 : decode (am_b 34) 130 = .ok (.athrow, 1) := by decide +kernel
theorem iX6_ask_131 : am_at 34 131 (.aload_n 0) 1 132 := ⟨by decide +kernel, rfl⟩
theorem iX6_ask_132 : am_at 34 132 (.getfield 32) 3 135 := ⟨by decide +kernel, rfl⟩
theorem fX6_ask_32 : am_fld 34 32 6 3 2 := ⟨by decide, rfl, wd_137⟩
theorem iX6_ask_135 : am_at 34 135 (.aload_n 0) 1 136 := ⟨by decide +kernel, rfl⟩
theorem iX6_ask_136 : am_at 34 136 (.getfield 143) 3 139 := ⟨by decide +kernel, rfl⟩
theorem iX6_ask_139 : am_at 34 139 (.aload 8) 2 141 := ⟨by decide +kernel, rfl⟩
theorem iX6_ask_141 : am_at 34 141 (.aastore) 1 142 := ⟨by decide +kernel, rfl⟩
theorem iX6_ask_142 : am_at 34 142 (.aload_n 0) 1 143 := ⟨by decide +kernel, rfl⟩
theorem iX6_ask_143 : am_at 34 143 (.dup) 1 144 := ⟨by decide +kernel, rfl⟩
theorem iX6_ask_144 : am_at 34 144 (.getfield 143) 3 147 := ⟨by decide +kernel, rfl⟩
theorem iX6_ask_147 : am_at 34 147 (.iconst 1) 1 148 := ⟨by decide +kernel, rfl⟩
theorem iX6_ask_148 : am_at 34 148 (.iadd) 1 149 := ⟨by decide +kernel, rfl⟩
theorem iX6_ask_149 : am_at 34 149 (.putfield 143) 3 152 := ⟨by decide +kernel, rfl⟩
theorem iX6_ask_152 : am_at 34 152 (.iload 10) 2 154 := ⟨by decide +kernel, rfl⟩
theorem iX6_ask_154 : am_jp 34 154 (.ifCond .eq 27) 27 181 157 := ⟨by decide +kernel, by decide, rfl⟩
theorem iX6_ask_157 : am_at 34 157 (.aload_n 0) 1 158 := ⟨by decide +kernel, rfl⟩
theorem iX6_ask_158 : am_at 34 158 (.getfield 36) 3 161 := ⟨by decide +kernel, rfl⟩
theorem fX6_ask_36 : am_fld 34 36 6 4 2 := ⟨by decide, rfl, wd_138⟩
theorem iX6_ask_161 : am_at 34 161 (.aload_n 0) 1 162 := ⟨by decide +kernel, rfl⟩
theorem iX6_ask_162 : am_at 34 162 (.getfield 155) 3 165 := ⟨by decide +kernel, rfl⟩
theorem iX6_ask_165 : am_at 34 165 (.aload 8) 2 167 := ⟨by decide +kernel, rfl⟩
theorem iX6_ask_167 : am_at 34 167 (.aastore) 1 168 := ⟨by decide +kernel, rfl⟩
theorem iX6_ask_168 : am_at 34 168 (.aload_n 0) 1 169 := ⟨by decide +kernel, rfl⟩
theorem iX6_ask_169 : am_at 34 169 (.dup) 1 170 := ⟨by decide +kernel, rfl⟩
theorem iX6_ask_170 : am_at 34 170 (.getfield 155) 3 173 := ⟨by decide +kernel, rfl⟩
theorem iX6_ask_173 : am_at 34 173 (.iconst 1) 1 174 := ⟨by decide +kernel, rfl⟩
theorem iX6_ask_174 : am_at 34 174 (.iadd) 1 175 := ⟨by decide +kernel, rfl⟩
theorem iX6_ask_175 : am_at 34 175 (.putfield 155) 3 178 := ⟨by decide +kernel, rfl⟩
theorem iX6_ask_178 : am_jp 34 178 (.goto 26) 26 204 181 := ⟨by decide +kernel, by decide, rfl⟩
theorem iX6_ask_181 : am_at 34 181 (.iload 9) 2 183 := ⟨by decide +kernel, rfl⟩
theorem iX6_ask_183 : am_at 34 183 (.iconst (-1)) 1 184 := ⟨by decide +kernel, rfl⟩
theorem iX6_ask_184 : am_jp 34 184 (.if_icmp .ne 12) 12 196 187 := ⟨by decide +kernel, by decide, rfl⟩
theorem iX6_ask_187 : am_at 34 187 (.aload_n 0) 1 188 := ⟨by decide +kernel, rfl⟩
theorem iX6_ask_188 : am_at 34 188 (.aload 8) 2 190 := ⟨by decide +kernel, rfl⟩
theorem iX6_ask_190 : am_at 34 190 (.invokevirtual 160) 3 193 := ⟨by decide +kernel, rfl⟩
theorem cX6_ask_160 : am_sV 34 160 64 6 := ⟨wd_478, wd_480, wp_10, rfl, by decide⟩
theorem iX6_ask_193 : am_jp 34 193 (.goto 11) 11 204 196 := ⟨by decide +kernel, by decide, rfl⟩
theorem iX6_ask_196 : am_at 34 196 (.aload_n 0) 1 197 := ⟨by decide +kernel, rfl⟩
theorem iX6_ask_197 : am_at 34 197 (.aload 8) 2 199 := ⟨by decide +kernel, rfl⟩
theorem iX6_ask_199 : am_at 34 199 (.iload 9) 2 201 := ⟨by decide +kernel, rfl⟩
theorem iX6_ask_201 : am_at 34 201 (.invokevirtual 164) 3 204 := ⟨by decide +kernel, rfl⟩
theorem cX6_ask_164 : am_sV 34 164 63 6 := ⟨wd_300, wd_302, wp_5, rfl, by decide⟩
theorem iX6_ask_204 : am_at 34 204 (.aload_n 0) 1 205 := ⟨by decide +kernel, rfl⟩
theorem iX6_ask_205 : am_at 34 205 (.getfield 143) 3 208 := ⟨by decide +kernel, rfl⟩
theorem iX6_ask_208 : am_at 34 208 (.iconst 1) 1 209 := ⟨by decide +kernel, rfl⟩
theorem iX6_ask_209 : am_at 34 209 (.isub) 1 210 := ⟨by decide +kernel, rfl⟩
theorem iX6_ask_210 : am_at 34 210 (.ireturn) 1 211 := ⟨by decide +kernel, rfl⟩
theorem iX6_read_0 : am_at 35 0 (.iload_n 1) 1 1 := ⟨by decide +kernel, rfl⟩
theorem iX6_read_1 : am_at 35 1 (.aload_n 0) 1 2 := ⟨by decide +kernel, rfl⟩
theorem iX6_read_2 : am_at 35 2 (.getfield 143) 3 5 := ⟨by decide +kernel, rfl⟩
theorem fX6_read_143 : am_fld 35 143 6 5 0 := ⟨by decide, rfl, wd_139⟩
theorem iX6_read_5 : am_at 35 5 (.invokestatic 39) 3 8 := ⟨by decide +kernel, rfl⟩
theorem cX6_read_39 : am_sS 35 39 44 := ⟨wd_192, wd_193, wd_1⟩
theorem iX6_read_8 : am_at 35 8 (.aload_n 0) 1 9 := ⟨by decide +kernel, rfl⟩
theorem iX6_read_9 : am_at 35 9 (.getfield 32) 3 12 := ⟨by decide +kernel, rfl⟩
theorem fX6_read_32 : am_fld 35 32 6 3 2 := ⟨by decide, rfl, wd_137⟩
theorem iX6_read_12 : am_at 35 12 (.iload_n 1) 1 13 := ⟨by decide +kernel, rfl⟩
theorem iX6_read_13 : am_at 35 13 (.aaload) 1 14 := ⟨by decide +kernel, rfl⟩
theorem iX6_read_14 : am_at 35 14 (.astore_n 3) 1 15 := ⟨by decide +kernel, rfl⟩
theorem iX6_read_15 : am_at 35 15 (.iload_n 2) 1 16 := ⟨by decide +kernel, rfl⟩
theorem iX6_read_16 : decode (am_b 35) 16 = .ok (.tableswitch 74 0 5 #[40, 46, 52, 57, 62, 68], 40) := by decide +kernel
theorem iX6_read_56 : am_at 35 56 (.aload_n 3) 1 57 := ⟨by decide +kernel, rfl⟩
theorem iX6_read_57 : am_at 35 57 (.getfield 168) 3 60 := ⟨by decide +kernel, rfl⟩
theorem fX6_read_168 : am_fld 35 168 2 6 0 := ⟨by decide, rfl, wd_560⟩
theorem iX6_read_60 : am_at 35 60 (.i2l) 1 61 := ⟨by decide +kernel, rfl⟩
theorem iX6_read_61 : am_at 35 61 (.lreturn) 1 62 := ⟨by decide +kernel, rfl⟩
theorem iX6_read_62 : am_at 35 62 (.aload_n 3) 1 63 := ⟨by decide +kernel, rfl⟩
theorem iX6_read_63 : am_at 35 63 (.getfield 171) 3 66 := ⟨by decide +kernel, rfl⟩
theorem fX6_read_171 : am_fld 35 171 2 7 0 := ⟨by decide, rfl, wd_562⟩
theorem iX6_read_66 : am_at 35 66 (.i2l) 1 67 := ⟨by decide +kernel, rfl⟩
theorem iX6_read_67 : am_at 35 67 (.lreturn) 1 68 := ⟨by decide +kernel, rfl⟩
theorem iX6_read_68 : am_at 35 68 (.aload_n 3) 1 69 := ⟨by decide +kernel, rfl⟩
theorem iX6_read_69 : am_at 35 69 (.getfield 174) 3 72 := ⟨by decide +kernel, rfl⟩
theorem fX6_read_174 : am_fld 35 174 2 9 1 := ⟨by decide, rfl, wd_565⟩
theorem iX6_read_72 : am_at 35 72 (.lreturn) 1 73 := ⟨by decide +kernel, rfl⟩
theorem iX6_read_73 : am_at 35 73 (.aload_n 3) 1 74 := ⟨by decide +kernel, rfl⟩
theorem iX6_read_74 : am_at 35 74 (.getfield 177) 3 77 := ⟨by decide +kernel, rfl⟩
theorem fX6_read_177 : am_fld 35 177 2 10 1 := ⟨by decide, rfl, wd_566⟩
theorem iX6_read_77 : am_at 35 77 (.lreturn) 1 78 := ⟨by decide +kernel, rfl⟩
theorem iX6_read_78 : am_at 35 78 (.aload_n 3) 1 79 := ⟨by decide +kernel, rfl⟩
theorem iX6_read_79 : am_at 35 79 (.getfield 180) 3 82 := ⟨by decide +kernel, rfl⟩
theorem fX6_read_180 : am_fld 35 180 2 8 0 := ⟨by decide, rfl, wd_564⟩
theorem iX6_read_82 : am_at 35 82 (.i2l) 1 83 := ⟨by decide +kernel, rfl⟩
theorem iX6_read_83 : am_at 35 83 (.lreturn) 1 84 := ⟨by decide +kernel, rfl⟩
theorem iX6_read_84 : am_at 35 84 (.aload_n 3) 1 85 := ⟨by decide +kernel, rfl⟩
theorem iX6_read_85 : am_at 35 85 (.getfield 183) 3 88 := ⟨by decide +kernel, rfl⟩
theorem fX6_read_183 : am_fld 35 183 2 0 0 := ⟨by decide, rfl, wd_548⟩
theorem iX6_read_88 : am_at 35 88 (.i2l) 1 89 := ⟨by decide +kernel, rfl⟩
theorem iX6_read_89 : am_at 35 89 (.lreturn) 1 90 := ⟨by decide +kernel, rfl⟩
theorem tX6_read_90 : am_tw 35 8 186 188 190 "no such what" := ⟨by decide, by decide, by decide +kernel, wd_195, wd_10, wd_602, by decide +kernel, by decide +kernel, by decide +kernel⟩
theorem iX6_read_90 : decode (am_b 35) 90 = .ok (.new 186, 3) := by decide +kernel
theorem iX6_read_93 : decode (am_b 35) 93 = .ok (.dup, 1) := by decide +kernel
theorem iX6_read_94 : decode (am_b 35) 94 = .ok (.ldc 188, 2) := by decide +kernel
theorem iX6_read_96 : decode (am_b 35) 96 = .ok (.invokespecial 190, 3) := by decide +kernel
theorem iX6_read_99 : decode (am_b 35) 99 = .ok (.athrow, 1) := by decide +kernel
theorem iX6_value_0 : am_at 36 0 (.iload_n 1) 1 1 := ⟨by decide +kernel, rfl⟩
theorem iX6_value_1 : am_at 36 1 (.aload_n 0) 1 2 := ⟨by decide +kernel, rfl⟩
theorem iX6_value_2 : am_at 36 2 (.getfield 18) 3 5 := ⟨by decide +kernel, rfl⟩
theorem fX6_value_18 : am_fld 36 18 6 1 2 := ⟨by decide, rfl, wd_135⟩
theorem iX6_value_5 : am_at 36 5 (.arraylength) 1 6 := ⟨by decide +kernel, rfl⟩
theorem iX6_value_6 : am_at 36 6 (.invokestatic 39) 3 9 := ⟨by decide +kernel, rfl⟩
theorem cX6_value_39 : am_sS 36 39 44 := ⟨wd_192, wd_193, wd_1⟩
theorem iX6_value_9 : am_at 36 9 (.aload_n 0) 1 10 := ⟨by decide +kernel, rfl⟩
theorem iX6_value_10 : am_at 36 10 (.iload_n 2) 1 11 := ⟨by decide +kernel, rfl⟩
theorem iX6_value_11 : am_at 36 11 (.iload_n 3) 1 12 := ⟨by decide +kernel, rfl⟩
theorem iX6_value_12 : am_at 36 12 (.invokevirtual 136) 3 15 := ⟨by decide +kernel, rfl⟩
theorem cX6_value_136 : am_sV 36 136 46 6 := ⟨wd_529, wd_531, wp_11, rfl, by decide⟩
theorem iX6_value_15 : am_at 36 15 (.aload_n 0) 1 16 := ⟨by decide +kernel, rfl⟩
theorem iX6_value_16 : am_at 36 16 (.getfield 18) 3 19 := ⟨by decide +kernel, rfl⟩
theorem iX6_value_19 : am_at 36 19 (.iload_n 1) 1 20 := ⟨by decide +kernel, rfl⟩
theorem iX6_value_20 : am_at 36 20 (.aaload) 1 21 := ⟨by decide +kernel, rfl⟩
theorem iX6_value_21 : am_at 36 21 (.getfield 191) 3 24 := ⟨by decide +kernel, rfl⟩
theorem fX6_value_191 : am_fld 36 191 3 0 2 := ⟨by decide, rfl, wd_84⟩
theorem iX6_value_24 : am_at 36 24 (.iload_n 2) 1 25 := ⟨by decide +kernel, rfl⟩
theorem iX6_value_25 : am_at 36 25 (.iload_n 3) 1 26 := ⟨by decide +kernel, rfl⟩
theorem iX6_value_26 : am_at 36 26 (.aload_n 0) 1 27 := ⟨by decide +kernel, rfl⟩
theorem iX6_value_27 : am_at 36 27 (.getfield 11) 3 30 := ⟨by decide +kernel, rfl⟩
theorem fX6_value_11 : am_fld 36 11 6 0 2 := ⟨by decide, rfl, wd_134⟩
theorem iX6_value_30 : am_at 36 30 (.arraylength) 1 31 := ⟨by decide +kernel, rfl⟩
theorem iX6_value_31 : am_at 36 31 (.invokevirtual 194) 3 34 := ⟨by decide +kernel, rfl⟩
theorem cX6_value_194 : am_sV 36 194 19 5 := ⟨wd_304, wd_305, wd_306, rfl, by decide⟩
theorem iX6_value_34 : am_at 36 34 (.lreturn) 1 35 := ⟨by decide +kernel, rfl⟩
theorem iX6_at_0 : am_at 37 0 (.iload_n 1) 1 1 := ⟨by decide +kernel, rfl⟩
theorem iX6_at_1 : am_at 37 1 (.aload_n 0) 1 2 := ⟨by decide +kernel, rfl⟩
theorem iX6_at_2 : am_at 37 2 (.getfield 18) 3 5 := ⟨by decide +kernel, rfl⟩
theorem fX6_at_18 : am_fld 37 18 6 1 2 := ⟨by decide, rfl, wd_135⟩
theorem iX6_at_5 : am_at 37 5 (.arraylength) 1 6 := ⟨by decide +kernel, rfl⟩
theorem iX6_at_6 : am_at 37 6 (.invokestatic 39) 3 9 := ⟨by decide +kernel, rfl⟩
theorem cX6_at_39 : am_sS 37 39 44 := ⟨wd_192, wd_193, wd_1⟩
theorem iX6_at_9 : am_at 37 9 (.iload_n 2) 1 10 := ⟨by decide +kernel, rfl⟩
theorem iX6_at_10 : am_at 37 10 (.aload_n 0) 1 11 := ⟨by decide +kernel, rfl⟩
theorem iX6_at_11 : am_at 37 11 (.getfield 11) 3 14 := ⟨by decide +kernel, rfl⟩
theorem fX6_at_11 : am_fld 37 11 6 0 2 := ⟨by decide, rfl, wd_134⟩
theorem iX6_at_14 : am_at 37 14 (.arraylength) 1 15 := ⟨by decide +kernel, rfl⟩
theorem iX6_at_15 : am_at 37 15 (.invokestatic 39) 3 18 := ⟨by decide +kernel, rfl⟩
theorem iX6_at_18 : am_at 37 18 (.aload_n 0) 1 19 := ⟨by decide +kernel, rfl⟩
theorem iX6_at_19 : am_at 37 19 (.getfield 18) 3 22 := ⟨by decide +kernel, rfl⟩
theorem iX6_at_22 : am_at 37 22 (.iload_n 1) 1 23 := ⟨by decide +kernel, rfl⟩
theorem iX6_at_23 : am_at 37 23 (.aaload) 1 24 := ⟨by decide +kernel, rfl⟩
theorem iX6_at_24 : am_at 37 24 (.getfield 124) 3 27 := ⟨by decide +kernel, rfl⟩
theorem fX6_at_124 : am_fld 37 124 3 2 2 := ⟨by decide, rfl, wd_87⟩
theorem iX6_at_27 : am_at 37 27 (.iload_n 2) 1 28 := ⟨by decide +kernel, rfl⟩
theorem iX6_at_28 : am_at 37 28 (.iaload) 1 29 := ⟨by decide +kernel, rfl⟩
theorem iX6_at_29 : am_at 37 29 (.ireturn) 1 30 := ⟨by decide +kernel, rfl⟩
theorem iX6_kept_0 : am_at 38 0 (.iload_n 1) 1 1 := ⟨by decide +kernel, rfl⟩
theorem iX6_kept_1 : am_at 38 1 (.aload_n 0) 1 2 := ⟨by decide +kernel, rfl⟩
theorem iX6_kept_2 : am_at 38 2 (.getfield 18) 3 5 := ⟨by decide +kernel, rfl⟩
theorem fX6_kept_18 : am_fld 38 18 6 1 2 := ⟨by decide, rfl, wd_135⟩
theorem iX6_kept_5 : am_at 38 5 (.arraylength) 1 6 := ⟨by decide +kernel, rfl⟩
theorem iX6_kept_6 : am_at 38 6 (.invokestatic 39) 3 9 := ⟨by decide +kernel, rfl⟩
theorem cX6_kept_39 : am_sS 38 39 44 := ⟨wd_192, wd_193, wd_1⟩
theorem iX6_kept_9 : am_at 38 9 (.iload_n 2) 1 10 := ⟨by decide +kernel, rfl⟩
theorem iX6_kept_10 : am_at 38 10 (.aload_n 0) 1 11 := ⟨by decide +kernel, rfl⟩
theorem iX6_kept_11 : am_at 38 11 (.getfield 11) 3 14 := ⟨by decide +kernel, rfl⟩
theorem fX6_kept_11 : am_fld 38 11 6 0 2 := ⟨by decide, rfl, wd_134⟩
theorem iX6_kept_14 : am_at 38 14 (.arraylength) 1 15 := ⟨by decide +kernel, rfl⟩
theorem iX6_kept_15 : am_at 38 15 (.invokestatic 39) 3 18 := ⟨by decide +kernel, rfl⟩
theorem iX6_kept_18 : am_at 38 18 (.aload_n 0) 1 19 := ⟨by decide +kernel, rfl⟩
theorem iX6_kept_19 : am_at 38 19 (.getfield 18) 3 22 := ⟨by decide +kernel, rfl⟩
theorem iX6_kept_22 : am_at 38 22 (.iload_n 1) 1 23 := ⟨by decide +kernel, rfl⟩
theorem iX6_kept_23 : am_at 38 23 (.aaload) 1 24 := ⟨by decide +kernel, rfl⟩
theorem iX6_kept_24 : am_at 38 24 (.getfield 117) 3 27 := ⟨by decide +kernel, rfl⟩
theorem fX6_kept_117 : am_fld 38 117 3 3 2 := ⟨by decide, rfl, wd_89⟩
theorem iX6_kept_27 : am_at 38 27 (.iload_n 2) 1 28 := ⟨by decide +kernel, rfl⟩
theorem iX6_kept_28 : am_at 38 28 (.iaload) 1 29 := ⟨by decide +kernel, rfl⟩
theorem iX6_kept_29 : am_at 38 29 (.ireturn) 1 30 := ⟨by decide +kernel, rfl⟩
theorem iX6_log_0 : am_at 39 0 (.iload_n 1) 1 1 := ⟨by decide +kernel, rfl⟩
theorem iX6_log_1 : am_at 39 1 (.aload_n 0) 1 2 := ⟨by decide +kernel, rfl⟩
theorem iX6_log_2 : am_at 39 2 (.getfield 11) 3 5 := ⟨by decide +kernel, rfl⟩
theorem fX6_log_11 : am_fld 39 11 6 0 2 := ⟨by decide, rfl, wd_134⟩
theorem iX6_log_5 : am_at 39 5 (.arraylength) 1 6 := ⟨by decide +kernel, rfl⟩
theorem iX6_log_6 : am_at 39 6 (.invokestatic 39) 3 9 := ⟨by decide +kernel, rfl⟩
theorem cX6_log_39 : am_sS 39 39 44 := ⟨wd_192, wd_193, wd_1⟩
theorem iX6_log_9 : am_at 39 9 (.iload_n 2) 1 10 := ⟨by decide +kernel, rfl⟩
theorem iX6_log_10 : am_at 39 10 (.iconst 2) 1 11 := ⟨by decide +kernel, rfl⟩
theorem iX6_log_11 : am_at 39 11 (.invokestatic 39) 3 14 := ⟨by decide +kernel, rfl⟩
theorem iX6_log_14 : am_at 39 14 (.iload_n 2) 1 15 := ⟨by decide +kernel, rfl⟩
theorem iX6_log_15 : am_jp 39 15 (.ifCond .ne 15) 15 30 18 := ⟨by decide +kernel, by decide, rfl⟩
theorem iX6_log_18 : am_at 39 18 (.aload_n 0) 1 19 := ⟨by decide +kernel, rfl⟩
theorem iX6_log_19 : am_at 39 19 (.getfield 11) 3 22 := ⟨by decide +kernel, rfl⟩
theorem iX6_log_22 : am_at 39 22 (.iload_n 1) 1 23 := ⟨by decide +kernel, rfl⟩
theorem iX6_log_23 : am_at 39 23 (.aaload) 1 24 := ⟨by decide +kernel, rfl⟩
theorem iX6_log_24 : am_at 39 24 (.getfield 58) 3 27 := ⟨by decide +kernel, rfl⟩
theorem fX6_log_58 : am_fld 39 58 1 1 0 := ⟨by decide, rfl, wd_36⟩
theorem iX6_log_27 : am_jp 39 27 (.goto 12) 12 39 30 := ⟨by decide +kernel, by decide, rfl⟩
theorem iX6_log_30 : am_at 39 30 (.aload_n 0) 1 31 := ⟨by decide +kernel, rfl⟩
theorem iX6_log_31 : am_at 39 31 (.getfield 11) 3 34 := ⟨by decide +kernel, rfl⟩
theorem iX6_log_34 : am_at 39 34 (.iload_n 1) 1 35 := ⟨by decide +kernel, rfl⟩
theorem iX6_log_35 : am_at 39 35 (.aaload) 1 36 := ⟨by decide +kernel, rfl⟩
theorem iX6_log_36 : am_at 39 36 (.getfield 200) 3 39 := ⟨by decide +kernel, rfl⟩
theorem fX6_log_200 : am_fld 39 200 1 2 0 := ⟨by decide, rfl, wd_38⟩
theorem iX6_log_39 : am_at 39 39 (.ireturn) 1 40 := ⟨by decide +kernel, rfl⟩
theorem iX6_logged_0 : am_at 40 0 (.iload_n 1) 1 1 := ⟨by decide +kernel, rfl⟩
theorem iX6_logged_1 : am_at 40 1 (.aload_n 0) 1 2 := ⟨by decide +kernel, rfl⟩
theorem iX6_logged_2 : am_at 40 2 (.getfield 11) 3 5 := ⟨by decide +kernel, rfl⟩
theorem fX6_logged_11 : am_fld 40 11 6 0 2 := ⟨by decide, rfl, wd_134⟩
theorem iX6_logged_5 : am_at 40 5 (.arraylength) 1 6 := ⟨by decide +kernel, rfl⟩
theorem iX6_logged_6 : am_at 40 6 (.invokestatic 39) 3 9 := ⟨by decide +kernel, rfl⟩
theorem cX6_logged_39 : am_sS 40 39 44 := ⟨wd_192, wd_193, wd_1⟩
theorem iX6_logged_9 : am_at 40 9 (.aload_n 0) 1 10 := ⟨by decide +kernel, rfl⟩
theorem iX6_logged_10 : am_at 40 10 (.getfield 11) 3 13 := ⟨by decide +kernel, rfl⟩
theorem iX6_logged_13 : am_at 40 13 (.iload_n 1) 1 14 := ⟨by decide +kernel, rfl⟩
theorem iX6_logged_14 : am_at 40 14 (.aaload) 1 15 := ⟨by decide +kernel, rfl⟩
theorem iX6_logged_15 : am_at 40 15 (.iload_n 2) 1 16 := ⟨by decide +kernel, rfl⟩
theorem iX6_logged_16 : am_at 40 16 (.invokevirtual 203) 3 19 := ⟨by decide +kernel, rfl⟩
theorem cX6_logged_203 : am_sV 40 203 2 1 := ⟨wd_427, wd_428, wd_429, rfl, by decide⟩
theorem iX6_logged_19 : am_at 40 19 (.astore 4) 2 21 := ⟨by decide +kernel, rfl⟩
theorem iX6_logged_21 : am_at 40 21 (.aload 4) 2 23 := ⟨by decide +kernel, rfl⟩
theorem iX6_logged_23 : am_jp 40 23 (.ifnonnull 13) 13 36 26 := ⟨by decide +kernel, by decide, rfl⟩
theorem tX6_logged_26 : am_tw 40 8 186 207 190 "no such position, or no longer" := ⟨by decide, by decide, by decide +kernel, wd_195, wd_10, wd_638, by decide +kernel, by decide +kernel, by decide +kernel⟩
theorem iX6_logged_26 : decode (am_b 40) 26 = .ok (.new 186, 3) := by decide +kernel
theorem iX6_logged_29 : decode (am_b 40) 29 = .ok (.dup, 1) := by decide +kernel
theorem iX6_logged_30 : decode (am_b 40) 30 = .ok (.ldc 207, 2) := by decide +kernel
theorem iX6_logged_32 : decode (am_b 40) 32 = .ok (.invokespecial 190, 3) := by decide +kernel
theorem iX6_logged_35 : decode (am_b 40) 35 = .ok (.athrow, 1) := by decide +kernel
theorem iX6_logged_36 : am_at 40 36 (.iload_n 3) 1 37 := ⟨by decide +kernel, rfl⟩
theorem iX6_logged_37 : decode (am_b 40) 37 = .ok (.tableswitch 91 0 6 #[43, 49, 55, 61, 67, 75, 83], 43) := by decide +kernel
theorem iX6_logged_80 : am_at 40 80 (.aload 4) 2 82 := ⟨by decide +kernel, rfl⟩
theorem iX6_logged_82 : am_at 40 82 (.getfield 209) 3 85 := ⟨by decide +kernel, rfl⟩
theorem fX6_logged_209 : am_fld 40 209 0 0 0 := ⟨by decide, rfl, wd_379⟩
theorem iX6_logged_85 : am_at 40 85 (.ireturn) 1 86 := ⟨by decide +kernel, rfl⟩
theorem iX6_logged_86 : am_at 40 86 (.aload 4) 2 88 := ⟨by decide +kernel, rfl⟩
theorem iX6_logged_88 : am_at 40 88 (.getfield 212) 3 91 := ⟨by decide +kernel, rfl⟩
theorem fX6_logged_212 : am_fld 40 212 0 1 0 := ⟨by decide, rfl, wd_382⟩
theorem iX6_logged_91 : am_at 40 91 (.ireturn) 1 92 := ⟨by decide +kernel, rfl⟩
theorem iX6_logged_92 : am_at 40 92 (.aload 4) 2 94 := ⟨by decide +kernel, rfl⟩
theorem iX6_logged_94 : am_at 40 94 (.getfield 215) 3 97 := ⟨by decide +kernel, rfl⟩
theorem fX6_logged_215 : am_fld 40 215 0 2 0 := ⟨by decide, rfl, wd_385⟩
theorem iX6_logged_97 : am_at 40 97 (.ireturn) 1 98 := ⟨by decide +kernel, rfl⟩
theorem iX6_logged_98 : am_at 40 98 (.aload 4) 2 100 := ⟨by decide +kernel, rfl⟩
theorem iX6_logged_100 : am_at 40 100 (.getfield 218) 3 103 := ⟨by decide +kernel, rfl⟩
theorem fX6_logged_218 : am_fld 40 218 0 3 0 := ⟨by decide, rfl, wd_388⟩
theorem iX6_logged_103 : am_at 40 103 (.ireturn) 1 104 := ⟨by decide +kernel, rfl⟩
theorem iX6_logged_104 : am_at 40 104 (.aload 4) 2 106 := ⟨by decide +kernel, rfl⟩
theorem iX6_logged_106 : am_at 40 106 (.getfield 221) 3 109 := ⟨by decide +kernel, rfl⟩
theorem fX6_logged_221 : am_fld 40 221 0 4 2 := ⟨by decide, rfl, wd_390⟩
theorem iX6_logged_109 : am_at 40 109 (.iconst 0) 1 110 := ⟨by decide +kernel, rfl⟩
theorem iX6_logged_110 : am_at 40 110 (.iaload) 1 111 := ⟨by decide +kernel, rfl⟩
theorem iX6_logged_111 : am_at 40 111 (.ireturn) 1 112 := ⟨by decide +kernel, rfl⟩
theorem iX6_logged_112 : am_at 40 112 (.aload 4) 2 114 := ⟨by decide +kernel, rfl⟩
theorem iX6_logged_114 : am_at 40 114 (.getfield 221) 3 117 := ⟨by decide +kernel, rfl⟩
theorem iX6_logged_117 : am_at 40 117 (.iconst 1) 1 118 := ⟨by decide +kernel, rfl⟩
theorem iX6_logged_118 : am_at 40 118 (.iaload) 1 119 := ⟨by decide +kernel, rfl⟩
theorem iX6_logged_119 : am_at 40 119 (.ireturn) 1 120 := ⟨by decide +kernel, rfl⟩
theorem iX6_logged_120 : am_at 40 120 (.aload 4) 2 122 := ⟨by decide +kernel, rfl⟩
theorem iX6_logged_122 : am_at 40 122 (.getfield 221) 3 125 := ⟨by decide +kernel, rfl⟩
theorem iX6_logged_125 : am_at 40 125 (.iconst 2) 1 126 := ⟨by decide +kernel, rfl⟩
theorem iX6_logged_126 : am_at 40 126 (.iaload) 1 127 := ⟨by decide +kernel, rfl⟩
theorem iX6_logged_127 : am_at 40 127 (.ireturn) 1 128 := ⟨by decide +kernel, rfl⟩
theorem tX6_logged_128 : am_tw 40 8 186 188 190 "no such what" := ⟨by decide, by decide, by decide +kernel, wd_195, wd_10, wd_602, by decide +kernel, by decide +kernel, by decide +kernel⟩
theorem iX6_logged_128 : decode (am_b 40) 128 = .ok (.new 186, 3) := by decide +kernel
theorem iX6_logged_131 : decode (am_b 40) 131 = .ok (.dup, 1) := by decide +kernel
theorem iX6_logged_132 : decode (am_b 40) 132 = .ok (.ldc 188, 2) := by decide +kernel
theorem iX6_logged_134 : decode (am_b 40) 134 = .ok (.invokespecial 190, 3) := by decide +kernel
theorem iX6_logged_137 : decode (am_b 40) 137 = .ok (.athrow, 1) := by decide +kernel
theorem iX6_session_0 : am_at 41 0 (.iload_n 1) 1 1 := ⟨by decide +kernel, rfl⟩
theorem iX6_session_1 : am_at 41 1 (.bipush 8) 2 3 := ⟨by decide +kernel, rfl⟩
theorem iX6_session_3 : am_at 41 3 (.invokestatic 39) 3 6 := ⟨by decide +kernel, rfl⟩
theorem cX6_session_39 : am_sS 41 39 44 := ⟨wd_192, wd_193, wd_1⟩
theorem iX6_session_6 : am_at 41 6 (.iload_n 2) 1 7 := ⟨by decide +kernel, rfl⟩
theorem iX6_session_7 : am_at 41 7 (.iconst 2) 1 8 := ⟨by decide +kernel, rfl⟩
theorem iX6_session_8 : am_at 41 8 (.invokestatic 39) 3 11 := ⟨by decide +kernel, rfl⟩
theorem iX6_session_11 : am_at 41 11 (.iload_n 3) 1 12 := ⟨by decide +kernel, rfl⟩
theorem iX6_session_12 : am_at 41 12 (.aload_n 0) 1 13 := ⟨by decide +kernel, rfl⟩
theorem iX6_session_13 : am_at 41 13 (.getfield 11) 3 16 := ⟨by decide +kernel, rfl⟩
theorem fX6_session_11 : am_fld 41 11 6 0 2 := ⟨by decide, rfl, wd_134⟩
theorem iX6_session_16 : am_at 41 16 (.arraylength) 1 17 := ⟨by decide +kernel, rfl⟩
theorem iX6_session_17 : am_at 41 17 (.invokestatic 39) 3 20 := ⟨by decide +kernel, rfl⟩
theorem iX6_session_20 : am_at 41 20 (.aload_n 0) 1 21 := ⟨by decide +kernel, rfl⟩
theorem iX6_session_21 : am_at 41 21 (.getfield 25) 3 24 := ⟨by decide +kernel, rfl⟩
theorem fX6_session_25 : am_fld 41 25 6 2 2 := ⟨by decide, rfl, wd_136⟩
theorem iX6_session_24 : am_at 41 24 (.iload_n 1) 1 25 := ⟨by decide +kernel, rfl⟩
theorem iX6_session_25 : am_at 41 25 (.aaload) 1 26 := ⟨by decide +kernel, rfl⟩
theorem iX6_session_26 : am_at 41 26 (.astore 4) 2 28 := ⟨by decide +kernel, rfl⟩
theorem iX6_session_28 : am_at 41 28 (.iload_n 2) 1 29 := ⟨by decide +kernel, rfl⟩
theorem iX6_session_29 : am_jp 41 29 (.ifCond .ne 13) 13 42 32 := ⟨by decide +kernel, by decide, rfl⟩
theorem iX6_session_32 : am_at 41 32 (.aload 4) 2 34 := ⟨by decide +kernel, rfl⟩
theorem iX6_session_34 : am_at 41 34 (.getfield 81) 3 37 := ⟨by decide +kernel, rfl⟩
theorem fX6_session_81 : am_fld 41 81 4 0 2 := ⟨by decide, rfl, wd_117⟩
theorem iX6_session_37 : am_at 41 37 (.iload_n 3) 1 38 := ⟨by decide +kernel, rfl⟩
theorem iX6_session_38 : am_at 41 38 (.iaload) 1 39 := ⟨by decide +kernel, rfl⟩
theorem iX6_session_39 : am_jp 41 39 (.goto 10) 10 49 42 := ⟨by decide +kernel, by decide, rfl⟩
theorem iX6_session_42 : am_at 41 42 (.aload 4) 2 44 := ⟨by decide +kernel, rfl⟩
theorem iX6_session_44 : am_at 41 44 (.getfield 224) 3 47 := ⟨by decide +kernel, rfl⟩
theorem fX6_session_224 : am_fld 41 224 4 1 2 := ⟨by decide, rfl, wd_119⟩
theorem iX6_session_47 : am_at 41 47 (.iload_n 3) 1 48 := ⟨by decide +kernel, rfl⟩
theorem iX6_session_48 : am_at 41 48 (.iaload) 1 49 := ⟨by decide +kernel, rfl⟩
theorem iX6_session_49 : am_at 41 49 (.ireturn) 1 50 := ⟨by decide +kernel, rfl⟩
theorem iX6_told_0 : am_at 42 0 (.iload_n 3) 1 1 := ⟨by decide +kernel, rfl⟩
theorem iX6_told_1 : am_at 42 1 (.aload_n 0) 1 2 := ⟨by decide +kernel, rfl⟩
theorem iX6_told_2 : am_at 42 2 (.getfield 11) 3 5 := ⟨by decide +kernel, rfl⟩
theorem fX6_told_11 : am_fld 42 11 6 0 2 := ⟨by decide, rfl, wd_134⟩
theorem iX6_told_5 : am_at 42 5 (.arraylength) 1 6 := ⟨by decide +kernel, rfl⟩
theorem iX6_told_6 : am_at 42 6 (.invokestatic 39) 3 9 := ⟨by decide +kernel, rfl⟩
theorem cX6_told_39 : am_sS 42 39 44 := ⟨wd_192, wd_193, wd_1⟩
theorem iX6_told_9 : am_at 42 9 (.aload_n 0) 1 10 := ⟨by decide +kernel, rfl⟩
theorem iX6_told_10 : am_at 42 10 (.lload_n 1) 1 11 := ⟨by decide +kernel, rfl⟩
theorem iX6_told_11 : am_at 42 11 (.invokevirtual 139) 3 14 := ⟨by decide +kernel, rfl⟩
theorem cX6_told_139 : am_sV 42 139 47 6 := ⟨wd_533, wd_535, wp_12, rfl, by decide⟩
theorem iX6_told_14 : am_at 42 14 (.lload_n 1) 1 15 := ⟨by decide +kernel, rfl⟩
theorem iX6_told_15 : am_at 42 15 (.iload_n 3) 1 16 := ⟨by decide +kernel, rfl⟩
theorem iX6_told_16 : am_at 42 16 (.invokestatic 227) 3 19 := ⟨by decide +kernel, rfl⟩
theorem cX6_told_227 : am_sS 42 227 50 := ⟨wd_294, wd_295, wd_1⟩
theorem iX6_told_19 : am_at 42 19 (.ireturn) 1 20 := ⟨by decide +kernel, rfl⟩
theorem iX6_count_0 : am_at 43 0 (.iload_n 1) 1 1 := ⟨by decide +kernel, rfl⟩
theorem iX6_count_1 : decode (am_b 43) 1 = .ok (.tableswitch 60 0 4 #[35, 40, 45, 50, 55], 35) := by decide +kernel
theorem iX6_count_36 : am_at 43 36 (.aload_n 0) 1 37 := ⟨by decide +kernel, rfl⟩
theorem iX6_count_37 : am_at 43 37 (.getfield 143) 3 40 := ⟨by decide +kernel, rfl⟩
theorem fX6_count_143 : am_fld 43 143 6 5 0 := ⟨by decide, rfl, wd_139⟩
theorem iX6_count_40 : am_at 43 40 (.ireturn) 1 41 := ⟨by decide +kernel, rfl⟩
theorem iX6_count_41 : am_at 43 41 (.aload_n 0) 1 42 := ⟨by decide +kernel, rfl⟩
theorem iX6_count_42 : am_at 43 42 (.getfield 155) 3 45 := ⟨by decide +kernel, rfl⟩
theorem fX6_count_155 : am_fld 43 155 6 6 0 := ⟨by decide, rfl, wd_140⟩
theorem iX6_count_45 : am_at 43 45 (.ireturn) 1 46 := ⟨by decide +kernel, rfl⟩
theorem iX6_count_46 : am_at 43 46 (.aload_n 0) 1 47 := ⟨by decide +kernel, rfl⟩
theorem iX6_count_47 : am_at 43 47 (.getfield 231) 3 50 := ⟨by decide +kernel, rfl⟩
theorem fX6_count_231 : am_fld 43 231 6 7 0 := ⟨by decide, rfl, wd_141⟩
theorem iX6_count_50 : am_at 43 50 (.ireturn) 1 51 := ⟨by decide +kernel, rfl⟩
theorem iX6_count_51 : am_at 43 51 (.aload_n 0) 1 52 := ⟨by decide +kernel, rfl⟩
theorem iX6_count_52 : am_at 43 52 (.getfield 234) 3 55 := ⟨by decide +kernel, rfl⟩
theorem fX6_count_234 : am_fld 43 234 6 8 0 := ⟨by decide, rfl, wd_142⟩
theorem iX6_count_55 : am_at 43 55 (.ireturn) 1 56 := ⟨by decide +kernel, rfl⟩
theorem iX6_count_56 : am_at 43 56 (.aload_n 0) 1 57 := ⟨by decide +kernel, rfl⟩
theorem iX6_count_57 : am_at 43 57 (.getfield 104) 3 60 := ⟨by decide +kernel, rfl⟩
theorem fX6_count_104 : am_fld 43 104 6 9 0 := ⟨by decide, rfl, wd_143⟩
theorem iX6_count_60 : am_at 43 60 (.ireturn) 1 61 := ⟨by decide +kernel, rfl⟩
theorem tX6_count_61 : am_tw 43 8 186 188 190 "no such what" := ⟨by decide, by decide, by decide +kernel, wd_195, wd_10, wd_602, by decide +kernel, by decide +kernel, by decide +kernel⟩
theorem iX6_count_61 : decode (am_b 43) 61 = .ok (.new 186, 3) := by decide +kernel
theorem iX6_count_64 : decode (am_b 43) 64 = .ok (.dup, 1) := by decide +kernel
theorem iX6_count_65 : decode (am_b 43) 65 = .ok (.ldc 188, 2) := by decide +kernel
theorem iX6_count_67 : decode (am_b 43) 67 = .ok (.invokespecial 190, 3) := by decide +kernel
theorem iX6_count_70 : decode (am_b 43) 70 = .ok (.athrow, 1) := by decide +kernel
theorem iX6_needIndex_0 : am_at 44 0 (.iload_n 0) 1 1 := ⟨by decide +kernel, rfl⟩
theorem iX6_needIndex_1 : am_jp 44 1 (.ifCond .lt 8) 8 9 4 := ⟨by decide +kernel, by decide, rfl⟩
theorem iX6_needIndex_4 : am_at 44 4 (.iload_n 0) 1 5 := ⟨by decide +kernel, rfl⟩
theorem iX6_needIndex_5 : am_at 44 5 (.iload_n 1) 1 6 := ⟨by decide +kernel, rfl⟩
theorem iX6_needIndex_6 : am_jp 44 6 (.if_icmp .lt 13) 13 19 9 := ⟨by decide +kernel, by decide, rfl⟩
theorem tX6_needIndex_9 : am_tw 44 8 186 237 190 "there is no such one" := ⟨by decide, by decide, by decide +kernel, wd_195, wd_10, wd_236, by decide +kernel, by decide +kernel, by decide +kernel⟩
theorem iX6_needIndex_9 : decode (am_b 44) 9 = .ok (.new 186, 3) := by decide +kernel
theorem iX6_needIndex_12 : decode (am_b 44) 12 = .ok (.dup, 1) := by decide +kernel
theorem iX6_needIndex_13 : decode (am_b 44) 13 = .ok (.ldc 237, 2) := by decide +kernel
theorem iX6_needIndex_15 : decode (am_b 44) 15 = .ok (.invokespecial 190, 3) := by decide +kernel
theorem iX6_needIndex_18 : decode (am_b 44) 18 = .ok (.athrow, 1) := by decide +kernel
theorem iX6_needIndex_19 : am_at 44 19 (.return_) 1 20 := ⟨by decide +kernel, rfl⟩
theorem iX6_needNumber_0 : am_at 45 0 (.iload_n 0) 1 1 := ⟨by decide +kernel, rfl⟩
theorem iX6_needNumber_1 : am_at 45 1 (.iload_n 1) 1 2 := ⟨by decide +kernel, rfl⟩
theorem iX6_needNumber_2 : am_jp 45 2 (.if_icmp .lt 8) 8 10 5 := ⟨by decide +kernel, by decide, rfl⟩
theorem iX6_needNumber_5 : am_at 45 5 (.iload_n 0) 1 6 := ⟨by decide +kernel, rfl⟩
theorem iX6_needNumber_6 : am_at 45 6 (.iload_n 2) 1 7 := ⟨by decide +kernel, rfl⟩
theorem iX6_needNumber_7 : am_jp 45 7 (.if_icmp .le 13) 13 20 10 := ⟨by decide +kernel, by decide, rfl⟩
theorem tX6_needNumber_10 : am_tw 45 9 239 241 243 "a number is not as told" := ⟨by decide, by decide, by decide +kernel, wd_266, wd_11, wd_275, by decide +kernel, by decide +kernel, by decide +kernel⟩
theorem iX6_needNumber_10 : decode (am_b 45) 10 = .ok (.new 239, 3) := by decide +kernel
theorem iX6_needNumber_13 : decode (am_b 45) 13 = .ok (.dup, 1) := by decide +kernel
theorem iX6_needNumber_14 : decode (am_b 45) 14 = .ok (.ldc 241, 2) := by decide +kernel
theorem iX6_needNumber_16 : decode (am_b 45) 16 = .ok (.invokespecial 243, 3) := by decide +kernel
theorem iX6_needNumber_19 : decode (am_b 45) 19 = .ok (.athrow, 1) := by decide +kernel
theorem iX6_needNumber_20 : am_at 45 20 (.return_) 1 21 := ⟨by decide +kernel, rfl⟩
theorem iX6_needQuestion_0 : am_at 46 0 (.iload_n 1) 1 1 := ⟨by decide +kernel, rfl⟩
theorem iX6_needQuestion_1 : am_at 46 1 (.bipush 9) 2 3 := ⟨by decide +kernel, rfl⟩
theorem iX6_needQuestion_3 : am_at 46 3 (.invokestatic 39) 3 6 := ⟨by decide +kernel, rfl⟩
theorem cX6_needQuestion_39 : am_sS 46 39 44 := ⟨wd_192, wd_193, wd_1⟩
theorem iX6_needQuestion_6 : am_at 46 6 (.iload_n 1) 1 7 := ⟨by decide +kernel, rfl⟩
theorem iX6_needQuestion_7 : am_at 46 7 (.bipush 8) 2 9 := ⟨by decide +kernel, rfl⟩
theorem iX6_needQuestion_9 : am_jp 46 9 (.if_icmp .ne 20) 20 29 12 := ⟨by decide +kernel, by decide, rfl⟩
theorem iX6_needQuestion_12 : am_at 46 12 (.iload_n 2) 1 13 := ⟨by decide +kernel, rfl⟩
theorem iX6_needQuestion_13 : am_at 46 13 (.iconst (-1)) 1 14 := ⟨by decide +kernel, rfl⟩
theorem iX6_needQuestion_14 : am_jp 46 14 (.if_icmp .eq 41) 41 55 17 := ⟨by decide +kernel, by decide, rfl⟩
theorem iX6_needQuestion_17 : am_at 46 17 (.iload_n 2) 1 18 := ⟨by decide +kernel, rfl⟩
theorem iX6_needQuestion_18 : am_at 46 18 (.aload_n 0) 1 19 := ⟨by decide +kernel, rfl⟩
theorem iX6_needQuestion_19 : am_at 46 19 (.getfield 11) 3 22 := ⟨by decide +kernel, rfl⟩
theorem fX6_needQuestion_11 : am_fld 46 11 6 0 2 := ⟨by decide, rfl, wd_134⟩
theorem iX6_needQuestion_22 : am_at 46 22 (.arraylength) 1 23 := ⟨by decide +kernel, rfl⟩
theorem iX6_needQuestion_23 : am_at 46 23 (.invokestatic 39) 3 26 := ⟨by decide +kernel, rfl⟩
theorem iX6_needQuestion_26 : am_jp 46 26 (.goto 29) 29 55 29 := ⟨by decide +kernel, by decide, rfl⟩
theorem iX6_needQuestion_29 : am_at 46 29 (.iload_n 1) 1 30 := ⟨by decide +kernel, rfl⟩
theorem iX6_needQuestion_30 : am_at 46 30 (.iconst 4) 1 31 := ⟨by decide +kernel, rfl⟩
theorem iX6_needQuestion_31 : am_jp 46 31 (.if_icmp .lt 18) 18 49 34 := ⟨by decide +kernel, by decide, rfl⟩
theorem iX6_needQuestion_34 : am_at 46 34 (.iload_n 1) 1 35 := ⟨by decide +kernel, rfl⟩
theorem iX6_needQuestion_35 : am_at 46 35 (.bipush 6) 2 37 := ⟨by decide +kernel, rfl⟩
theorem iX6_needQuestion_37 : am_jp 46 37 (.if_icmp .gt 12) 12 49 40 := ⟨by decide +kernel, by decide, rfl⟩
theorem iX6_needQuestion_40 : am_at 46 40 (.iload_n 2) 1 41 := ⟨by decide +kernel, rfl⟩
theorem iX6_needQuestion_41 : am_at 46 41 (.bipush 10) 2 43 := ⟨by decide +kernel, rfl⟩
theorem iX6_needQuestion_43 : am_at 46 43 (.invokestatic 39) 3 46 := ⟨by decide +kernel, rfl⟩
theorem iX6_needQuestion_46 : am_jp 46 46 (.goto 9) 9 55 49 := ⟨by decide +kernel, by decide, rfl⟩
theorem iX6_needQuestion_49 : am_at 46 49 (.iload_n 2) 1 50 := ⟨by decide +kernel, rfl⟩
theorem iX6_needQuestion_50 : am_at 46 50 (.bipush 30) 2 52 := ⟨by decide +kernel, rfl⟩
theorem iX6_needQuestion_52 : am_at 46 52 (.invokestatic 39) 3 55 := ⟨by decide +kernel, rfl⟩
theorem iX6_needQuestion_55 : am_at 46 55 (.return_) 1 56 := ⟨by decide +kernel, rfl⟩
theorem iX6_needToken_0 : am_at 47 0 (.lload_n 1) 1 1 := ⟨by decide +kernel, rfl⟩
theorem iX6_needToken_1 : am_at 47 1 (.bipush 20) 2 3 := ⟨by decide +kernel, rfl⟩
theorem iX6_needToken_3 : am_at 47 3 (.lushr) 1 4 := ⟨by decide +kernel, rfl⟩
theorem iX6_needToken_4 : am_at 47 4 (.lstore_n 3) 1 5 := ⟨by decide +kernel, rfl⟩
theorem iX6_needToken_5 : am_at 47 5 (.lload_n 1) 1 6 := ⟨by decide +kernel, rfl⟩
theorem iX6_needToken_6 : am_at 47 6 (.lconst 0) 1 7 := ⟨by decide +kernel, rfl⟩
theorem iX6_needToken_7 : am_at 47 7 (.lcmp) 1 8 := ⟨by decide +kernel, rfl⟩
theorem iX6_needToken_8 : am_jp 47 8 (.ifCond .lt 24) 24 32 11 := ⟨by decide +kernel, by decide, rfl⟩
theorem iX6_needToken_11 : am_at 47 11 (.lload_n 3) 1 12 := ⟨by decide +kernel, rfl⟩
theorem iX6_needToken_12 : am_at 47 12 (.ldc2_w 244) 3 15 := ⟨by decide +kernel, rfl⟩
theorem iX6_needToken_15 : am_at 47 15 (.lcmp) 1 16 := ⟨by decide +kernel, rfl⟩
theorem iX6_needToken_16 : am_jp 47 16 (.ifCond .ge 16) 16 32 19 := ⟨by decide +kernel, by decide, rfl⟩
theorem iX6_needToken_19 : am_at 47 19 (.lload_n 1) 1 20 := ⟨by decide +kernel, rfl⟩
theorem iX6_needToken_20 : am_at 47 20 (.ldc2_w 246) 3 23 := ⟨by decide +kernel, rfl⟩
theorem iX6_needToken_23 : am_at 47 23 (.land) 1 24 := ⟨by decide +kernel, rfl⟩
theorem iX6_needToken_24 : am_at 47 24 (.lload_n 3) 1 25 := ⟨by decide +kernel, rfl⟩
theorem iX6_needToken_25 : am_at 47 25 (.invokestatic 248) 3 28 := ⟨by decide +kernel, rfl⟩
theorem cX6_needToken_248 : am_sS 47 248 48 := ⟨wd_323, wd_324, wd_1⟩
theorem iX6_needToken_28 : am_at 47 28 (.lcmp) 1 29 := ⟨by decide +kernel, rfl⟩
theorem iX6_needToken_29 : am_jp 47 29 (.ifCond .eq 13) 13 42 32 := ⟨by decide +kernel, by decide, rfl⟩
theorem tX6_needToken_32 : am_tw 47 9 239 252 243 "the number is no token" := ⟨by decide, by decide, by decide +kernel, wd_266, wd_11, wd_539, by decide +kernel, by decide +kernel, by decide +kernel⟩
theorem iX6_needToken_32 : decode (am_b 47) 32 = .ok (.new 239, 3) := by decide +kernel
theorem iX6_needToken_35 : decode (am_b 47) 35 = .ok (.dup, 1) := by decide +kernel
theorem iX6_needToken_36 : decode (am_b 47) 36 = .ok (.ldc 252, 2) := by decide +kernel
theorem iX6_needToken_38 : decode (am_b 47) 38 = .ok (.invokespecial 243, 3) := by decide +kernel
theorem iX6_needToken_41 : decode (am_b 47) 41 = .ok (.athrow, 1) := by decide +kernel
theorem iX6_needToken_42 : am_at 47 42 (.iconst 0) 1 43 := ⟨by decide +kernel, rfl⟩
theorem iX6_needToken_43 : am_at 47 43 (.istore 5) 2 45 := ⟨by decide +kernel, rfl⟩
theorem iX6_needToken_45 : am_at 47 45 (.iload 5) 2 47 := ⟨by decide +kernel, rfl⟩
theorem iX6_needToken_47 : am_at 47 47 (.iconst 3) 1 48 := ⟨by decide +kernel, rfl⟩
theorem iX6_needToken_48 : am_jp 47 48 (.if_icmp .ge 56) 56 104 51 := ⟨by decide +kernel, by decide, rfl⟩
theorem iX6_needToken_51 : am_at 47 51 (.iload 5) 2 53 := ⟨by decide +kernel, rfl⟩
theorem iX6_needToken_53 : am_at 47 53 (.aload_n 0) 1 54 := ⟨by decide +kernel, rfl⟩
theorem iX6_needToken_54 : am_at 47 54 (.getfield 11) 3 57 := ⟨by decide +kernel, rfl⟩
theorem fX6_needToken_11 : am_fld 47 11 6 0 2 := ⟨by decide, rfl, wd_134⟩
theorem iX6_needToken_57 : am_at 47 57 (.arraylength) 1 58 := ⟨by decide +kernel, rfl⟩
theorem iX6_needToken_58 : am_jp 47 58 (.if_icmp .ge 16) 16 74 61 := ⟨by decide +kernel, by decide, rfl⟩
theorem iX6_needToken_61 : am_at 47 61 (.aload_n 0) 1 62 := ⟨by decide +kernel, rfl⟩
theorem iX6_needToken_62 : am_at 47 62 (.getfield 11) 3 65 := ⟨by decide +kernel, rfl⟩
theorem iX6_needToken_65 : am_at 47 65 (.iload 5) 2 67 := ⟨by decide +kernel, rfl⟩
theorem iX6_needToken_67 : am_at 47 67 (.aaload) 1 68 := ⟨by decide +kernel, rfl⟩
theorem iX6_needToken_68 : am_at 47 68 (.getfield 58) 3 71 := ⟨by decide +kernel, rfl⟩
theorem fX6_needToken_58 : am_fld 47 58 1 1 0 := ⟨by decide, rfl, wd_36⟩
theorem iX6_needToken_71 : am_jp 47 71 (.goto 4) 4 75 74 := ⟨by decide +kernel, by decide, rfl⟩
theorem iX6_needToken_74 : am_at 47 74 (.iconst 0) 1 75 := ⟨by decide +kernel, rfl⟩
theorem iX6_needToken_75 : am_at 47 75 (.istore 6) 2 77 := ⟨by decide +kernel, rfl⟩
theorem iX6_needToken_77 : am_at 47 77 (.lload_n 1) 1 78 := ⟨by decide +kernel, rfl⟩
theorem iX6_needToken_78 : am_at 47 78 (.iload 5) 2 80 := ⟨by decide +kernel, rfl⟩
theorem iX6_needToken_80 : am_at 47 80 (.invokestatic 227) 3 83 := ⟨by decide +kernel, rfl⟩
theorem cX6_needToken_227 : am_sS 47 227 50 := ⟨wd_294, wd_295, wd_1⟩
theorem iX6_needToken_83 : am_at 47 83 (.iload 6) 2 85 := ⟨by decide +kernel, rfl⟩
theorem iX6_needToken_85 : am_jp 47 85 (.if_icmp .le 13) 13 98 88 := ⟨by decide +kernel, by decide, rfl⟩
theorem tX6_needToken_88 : am_tw 47 9 239 254 243 "the token is beyond the logs" := ⟨by decide, by decide, by decide +kernel, wd_266, wd_11, wd_540, by decide +kernel, by decide +kernel, by decide +kernel⟩
theorem iX6_needToken_88 : decode (am_b 47) 88 = .ok (.new 239, 3) := by decide +kernel
theorem iX6_needToken_91 : decode (am_b 47) 91 = .ok (.dup, 1) := by decide +kernel
theorem iX6_needToken_92 : decode (am_b 47) 92 = .ok (.ldc 254, 2) := by decide +kernel
theorem iX6_needToken_94 : decode (am_b 47) 94 = .ok (.invokespecial 243, 3) := by decide +kernel
theorem iX6_needToken_97 : decode (am_b 47) 97 = .ok (.athrow, 1) := by decide +kernel
theorem iX6_needToken_98 : am_at 47 98 (.iinc 5 1) 3 101 := ⟨by decide +kernel, rfl⟩
theorem iX6_needToken_101 : am_jp 47 101 (.goto (-56)) (-56) 45 104 := ⟨by decide +kernel, by decide, rfl⟩
theorem iX6_needToken_104 : am_at 47 104 (.return_) 1 105 := ⟨by decide +kernel, rfl⟩
theorem iX6_checkOf_0 : am_at 48 0 (.lload_n 0) 1 1 := ⟨by decide +kernel, rfl⟩
theorem iX6_checkOf_1 : am_at 48 1 (.ldc2_w 256) 3 4 := ⟨by decide +kernel, rfl⟩
theorem iX6_checkOf_4 : am_at 48 4 (.lmul) 1 5 := ⟨by decide +kernel, rfl⟩
theorem iX6_checkOf_5 : am_at 48 5 (.bipush 44) 2 7 := ⟨by decide +kernel, rfl⟩
theorem iX6_checkOf_7 : am_at 48 7 (.lushr) 1 8 := ⟨by decide +kernel, rfl⟩
theorem iX6_checkOf_8 : am_at 48 8 (.lreturn) 1 9 := ⟨by decide +kernel, rfl⟩
end
section
theorem iX6_tokenOf_0 : am_at 49 0 (.lconst 0) 1 1 := ⟨by decide +kernel, rfl⟩
theorem iX6_tokenOf_1 : am_at 49 1 (.lstore_n 1) 1 2 := ⟨by decide +kernel, rfl⟩
theorem iX6_tokenOf_2 : am_at 49 2 (.iconst 2) 1 3 := ⟨by decide +kernel, rfl⟩
theorem iX6_tokenOf_3 : am_at 49 3 (.istore_n 3) 1 4 := ⟨by decide +kernel, rfl⟩
theorem iX6_tokenOf_4 : am_at 49 4 (.iload_n 3) 1 5 := ⟨by decide +kernel, rfl⟩
theorem iX6_tokenOf_5 : am_jp 49 5 (.ifCond .lt 19) 19 24 8 := ⟨by decide +kernel, by decide, rfl⟩
theorem iX6_tokenOf_8 : am_at 49 8 (.lload_n 1) 1 9 := ⟨by decide +kernel, rfl⟩
theorem iX6_tokenOf_9 : am_at 49 9 (.bipush 9) 2 11 := ⟨by decide +kernel, rfl⟩
theorem iX6_tokenOf_11 : am_at 49 11 (.lshl) 1 12 := ⟨by decide +kernel, rfl⟩
theorem iX6_tokenOf_12 : am_at 49 12 (.aload_n 0) 1 13 := ⟨by decide +kernel, rfl⟩
theorem iX6_tokenOf_13 : am_at 49 13 (.iload_n 3) 1 14 := ⟨by decide +kernel, rfl⟩
theorem iX6_tokenOf_14 : am_at 49 14 (.iaload) 1 15 := ⟨by decide +kernel, rfl⟩
theorem iX6_tokenOf_15 : am_at 49 15 (.i2l) 1 16 := ⟨by decide +kernel, rfl⟩
theorem iX6_tokenOf_16 : am_at 49 16 (.ladd) 1 17 := ⟨by decide +kernel, rfl⟩
theorem iX6_tokenOf_17 : am_at 49 17 (.lstore_n 1) 1 18 := ⟨by decide +kernel, rfl⟩
theorem iX6_tokenOf_18 : am_at 49 18 (.iinc 3 (-1)) 3 21 := ⟨by decide +kernel, rfl⟩
theorem iX6_tokenOf_21 : am_jp 49 21 (.goto (-17)) (-17) 4 24 := ⟨by decide +kernel, by decide, rfl⟩
theorem iX6_tokenOf_24 : am_at 49 24 (.lload_n 1) 1 25 := ⟨by decide +kernel, rfl⟩
theorem iX6_tokenOf_25 : am_at 49 25 (.bipush 20) 2 27 := ⟨by decide +kernel, rfl⟩
theorem iX6_tokenOf_27 : am_at 49 27 (.lshl) 1 28 := ⟨by decide +kernel, rfl⟩
theorem iX6_tokenOf_28 : am_at 49 28 (.lload_n 1) 1 29 := ⟨by decide +kernel, rfl⟩
theorem iX6_tokenOf_29 : am_at 49 29 (.invokestatic 248) 3 32 := ⟨by decide +kernel, rfl⟩
theorem cX6_tokenOf_248 : am_sS 49 248 48 := ⟨wd_323, wd_324, wd_1⟩
theorem iX6_tokenOf_32 : am_at 49 32 (.ladd) 1 33 := ⟨by decide +kernel, rfl⟩
theorem iX6_tokenOf_33 : am_at 49 33 (.lreturn) 1 34 := ⟨by decide +kernel, rfl⟩
theorem iX6_positionIn_0 : am_at 50 0 (.lload_n 0) 1 1 := ⟨by decide +kernel, rfl⟩
theorem iX6_positionIn_1 : am_at 50 1 (.bipush 20) 2 3 := ⟨by decide +kernel, rfl⟩
theorem iX6_positionIn_3 : am_at 50 3 (.bipush 9) 2 5 := ⟨by decide +kernel, rfl⟩
theorem iX6_positionIn_5 : am_at 50 5 (.iload_n 2) 1 6 := ⟨by decide +kernel, rfl⟩
theorem iX6_positionIn_6 : am_at 50 6 (.imul) 1 7 := ⟨by decide +kernel, rfl⟩
theorem iX6_positionIn_7 : am_at 50 7 (.iadd) 1 8 := ⟨by decide +kernel, rfl⟩
theorem iX6_positionIn_8 : am_at 50 8 (.lushr) 1 9 := ⟨by decide +kernel, rfl⟩
theorem iX6_positionIn_9 : am_at 50 9 (.l2i) 1 10 := ⟨by decide +kernel, rfl⟩
theorem iX6_positionIn_10 : am_at 50 10 (.sipush 511) 3 13 := ⟨by decide +kernel, rfl⟩
theorem iX6_positionIn_13 : am_at 50 13 (.iand) 1 14 := ⟨by decide +kernel, rfl⟩
theorem iX6_positionIn_14 : am_at 50 14 (.ireturn) 1 15 := ⟨by decide +kernel, rfl⟩
theorem iX6_withPosition_0 : am_at 51 0 (.aload_n 0) 1 1 := ⟨by decide +kernel, rfl⟩
theorem iX6_withPosition_1 : am_at 51 1 (.invokevirtual 258) 3 4 := ⟨by decide +kernel, rfl⟩
theorem iX6_withPosition_4 : am_at 51 4 (.checkcast 259) 3 7 := ⟨by decide +kernel, rfl⟩
theorem iX6_withPosition_7 : am_at 51 7 (.astore_n 3) 1 8 := ⟨by decide +kernel, rfl⟩
theorem iX6_withPosition_8 : am_at 51 8 (.aload_n 3) 1 9 := ⟨by decide +kernel, rfl⟩
theorem iX6_withPosition_9 : am_at 51 9 (.iload_n 1) 1 10 := ⟨by decide +kernel, rfl⟩
theorem iX6_withPosition_10 : am_at 51 10 (.aload_n 3) 1 11 := ⟨by decide +kernel, rfl⟩
theorem iX6_withPosition_11 : am_at 51 11 (.iload_n 1) 1 12 := ⟨by decide +kernel, rfl⟩
theorem iX6_withPosition_12 : am_at 51 12 (.iaload) 1 13 := ⟨by decide +kernel, rfl⟩
theorem iX6_withPosition_13 : am_at 51 13 (.iload_n 2) 1 14 := ⟨by decide +kernel, rfl⟩
theorem iX6_withPosition_14 : am_at 51 14 (.invokestatic 263) 3 17 := ⟨by decide +kernel, rfl⟩
theorem iX6_withPosition_17 : am_at 51 17 (.iastore) 1 18 := ⟨by decide +kernel, rfl⟩
theorem iX6_withPosition_18 : am_at 51 18 (.aload_n 3) 1 19 := ⟨by decide +kernel, rfl⟩
theorem iX6_withPosition_19 : am_at 51 19 (.areturn) 1 20 := ⟨by decide +kernel, rfl⟩
theorem iX6_covers_0 : am_at 52 0 (.iconst 0) 1 1 := ⟨by decide +kernel, rfl⟩
theorem iX6_covers_1 : am_at 52 1 (.istore_n 2) 1 2 := ⟨by decide +kernel, rfl⟩
theorem iX6_covers_2 : am_at 52 2 (.iload_n 2) 1 3 := ⟨by decide +kernel, rfl⟩
theorem iX6_covers_3 : am_at 52 3 (.iconst 3) 1 4 := ⟨by decide +kernel, rfl⟩
theorem iX6_covers_4 : am_jp 52 4 (.if_icmp .ge 20) 20 24 7 := ⟨by decide +kernel, by decide, rfl⟩
theorem iX6_covers_7 : am_at 52 7 (.aload_n 0) 1 8 := ⟨by decide +kernel, rfl⟩
theorem iX6_covers_8 : am_at 52 8 (.iload_n 2) 1 9 := ⟨by decide +kernel, rfl⟩
theorem iX6_covers_9 : am_at 52 9 (.iaload) 1 10 := ⟨by decide +kernel, rfl⟩
theorem iX6_covers_10 : am_at 52 10 (.aload_n 1) 1 11 := ⟨by decide +kernel, rfl⟩
theorem iX6_covers_11 : am_at 52 11 (.iload_n 2) 1 12 := ⟨by decide +kernel, rfl⟩
theorem iX6_covers_12 : am_at 52 12 (.iaload) 1 13 := ⟨by decide +kernel, rfl⟩
theorem iX6_covers_13 : am_jp 52 13 (.if_icmp .ge 5) 5 18 16 := ⟨by decide +kernel, by decide, rfl⟩
theorem iX6_covers_16 : am_at 52 16 (.iconst 0) 1 17 := ⟨by decide +kernel, rfl⟩
theorem iX6_covers_17 : am_at 52 17 (.ireturn) 1 18 := ⟨by decide +kernel, rfl⟩
theorem iX6_covers_18 : am_at 52 18 (.iinc 2 1) 3 21 := ⟨by decide +kernel, rfl⟩
theorem iX6_covers_21 : am_jp 52 21 (.goto (-19)) (-19) 2 24 := ⟨by decide +kernel, by decide, rfl⟩
theorem iX6_covers_24 : am_at 52 24 (.iconst 1) 1 25 := ⟨by decide +kernel, rfl⟩
theorem iX6_covers_25 : am_at 52 25 (.ireturn) 1 26 := ⟨by decide +kernel, rfl⟩
theorem iX6_sum_0 : am_at 53 0 (.iconst 0) 1 1 := ⟨by decide +kernel, rfl⟩
theorem iX6_sum_1 : am_at 53 1 (.istore_n 1) 1 2 := ⟨by decide +kernel, rfl⟩
theorem iX6_sum_2 : am_at 53 2 (.aload_n 0) 1 3 := ⟨by decide +kernel, rfl⟩
theorem iX6_sum_3 : am_at 53 3 (.astore_n 2) 1 4 := ⟨by decide +kernel, rfl⟩
theorem iX6_sum_4 : am_at 53 4 (.aload_n 2) 1 5 := ⟨by decide +kernel, rfl⟩
theorem iX6_sum_5 : am_at 53 5 (.arraylength) 1 6 := ⟨by decide +kernel, rfl⟩
theorem iX6_sum_6 : am_at 53 6 (.istore_n 3) 1 7 := ⟨by decide +kernel, rfl⟩
theorem iX6_sum_7 : am_at 53 7 (.iconst 0) 1 8 := ⟨by decide +kernel, rfl⟩
theorem iX6_sum_8 : am_at 53 8 (.istore 4) 2 10 := ⟨by decide +kernel, rfl⟩
theorem iX6_sum_10 : am_at 53 10 (.iload 4) 2 12 := ⟨by decide +kernel, rfl⟩
theorem iX6_sum_12 : am_at 53 12 (.iload_n 3) 1 13 := ⟨by decide +kernel, rfl⟩
theorem iX6_sum_13 : am_jp 53 13 (.if_icmp .ge 20) 20 33 16 := ⟨by decide +kernel, by decide, rfl⟩
theorem iX6_sum_16 : am_at 53 16 (.aload_n 2) 1 17 := ⟨by decide +kernel, rfl⟩
theorem iX6_sum_17 : am_at 53 17 (.iload 4) 2 19 := ⟨by decide +kernel, rfl⟩
theorem iX6_sum_19 : am_at 53 19 (.iaload) 1 20 := ⟨by decide +kernel, rfl⟩
theorem iX6_sum_20 : am_at 53 20 (.istore 5) 2 22 := ⟨by decide +kernel, rfl⟩
theorem iX6_sum_22 : am_at 53 22 (.iload_n 1) 1 23 := ⟨by decide +kernel, rfl⟩
theorem iX6_sum_23 : am_at 53 23 (.iload 5) 2 25 := ⟨by decide +kernel, rfl⟩
theorem iX6_sum_25 : am_at 53 25 (.iadd) 1 26 := ⟨by decide +kernel, rfl⟩
theorem iX6_sum_26 : am_at 53 26 (.istore_n 1) 1 27 := ⟨by decide +kernel, rfl⟩
theorem iX6_sum_27 : am_at 53 27 (.iinc 4 1) 3 30 := ⟨by decide +kernel, rfl⟩
theorem iX6_sum_30 : am_jp 53 30 (.goto (-20)) (-20) 10 33 := ⟨by decide +kernel, by decide, rfl⟩
theorem iX6_sum_33 : am_at 53 33 (.iload_n 1) 1 34 := ⟨by decide +kernel, rfl⟩
theorem iX6_sum_34 : am_at 53 34 (.ireturn) 1 35 := ⟨by decide +kernel, rfl⟩
theorem iX6_leastKept_0 : am_at 54 0 (.sipush 400) 3 3 := ⟨by decide +kernel, rfl⟩
theorem iX6_leastKept_3 : am_at 54 3 (.istore_n 2) 1 4 := ⟨by decide +kernel, rfl⟩
theorem iX6_leastKept_4 : am_at 54 4 (.aload_n 0) 1 5 := ⟨by decide +kernel, rfl⟩
theorem iX6_leastKept_5 : am_at 54 5 (.getfield 18) 3 8 := ⟨by decide +kernel, rfl⟩
theorem fX6_leastKept_18 : am_fld 54 18 6 1 2 := ⟨by decide, rfl, wd_135⟩
theorem iX6_leastKept_8 : am_at 54 8 (.astore_n 3) 1 9 := ⟨by decide +kernel, rfl⟩
theorem iX6_leastKept_9 : am_at 54 9 (.aload_n 3) 1 10 := ⟨by decide +kernel, rfl⟩
theorem iX6_leastKept_10 : am_at 54 10 (.arraylength) 1 11 := ⟨by decide +kernel, rfl⟩
theorem iX6_leastKept_11 : am_at 54 11 (.istore 4) 2 13 := ⟨by decide +kernel, rfl⟩
theorem iX6_leastKept_13 : am_at 54 13 (.iconst 0) 1 14 := ⟨by decide +kernel, rfl⟩
theorem iX6_leastKept_14 : am_at 54 14 (.istore 5) 2 16 := ⟨by decide +kernel, rfl⟩
theorem iX6_leastKept_16 : am_at 54 16 (.iload 5) 2 18 := ⟨by decide +kernel, rfl⟩
theorem iX6_leastKept_18 : am_at 54 18 (.iload 4) 2 20 := ⟨by decide +kernel, rfl⟩
theorem iX6_leastKept_20 : am_jp 54 20 (.if_icmp .ge 27) 27 47 23 := ⟨by decide +kernel, by decide, rfl⟩
theorem iX6_leastKept_23 : am_at 54 23 (.aload_n 3) 1 24 := ⟨by decide +kernel, rfl⟩
theorem iX6_leastKept_24 : am_at 54 24 (.iload 5) 2 26 := ⟨by decide +kernel, rfl⟩
theorem iX6_leastKept_26 : am_at 54 26 (.aaload) 1 27 := ⟨by decide +kernel, rfl⟩
theorem iX6_leastKept_27 : am_at 54 27 (.astore 6) 2 29 := ⟨by decide +kernel, rfl⟩
theorem iX6_leastKept_29 : am_at 54 29 (.iload_n 2) 1 30 := ⟨by decide +kernel, rfl⟩
theorem iX6_leastKept_30 : am_at 54 30 (.aload 6) 2 32 := ⟨by decide +kernel, rfl⟩
theorem iX6_leastKept_32 : am_at 54 32 (.getfield 117) 3 35 := ⟨by decide +kernel, rfl⟩
theorem fX6_leastKept_117 : am_fld 54 117 3 3 2 := ⟨by decide, rfl, wd_89⟩
theorem iX6_leastKept_35 : am_at 54 35 (.iload_n 1) 1 36 := ⟨by decide +kernel, rfl⟩
theorem iX6_leastKept_36 : am_at 54 36 (.iaload) 1 37 := ⟨by decide +kernel, rfl⟩
theorem iX6_leastKept_37 : am_at 54 37 (.invokestatic 268) 3 40 := ⟨by decide +kernel, rfl⟩
theorem iX6_leastKept_40 : am_at 54 40 (.istore_n 2) 1 41 := ⟨by decide +kernel, rfl⟩
theorem iX6_leastKept_41 : am_at 54 41 (.iinc 5 1) 3 44 := ⟨by decide +kernel, rfl⟩
theorem iX6_leastKept_44 : am_jp 54 44 (.goto (-28)) (-28) 16 47 := ⟨by decide +kernel, by decide, rfl⟩
theorem iX6_leastKept_47 : am_at 54 47 (.iload_n 2) 1 48 := ⟨by decide +kernel, rfl⟩
theorem iX6_leastKept_48 : am_at 54 48 (.ireturn) 1 49 := ⟨by decide +kernel, rfl⟩
theorem iX6_takeStep_0 : am_at 55 0 (.aload_n 0) 1 1 := ⟨by decide +kernel, rfl⟩
theorem iX6_takeStep_1 : am_at 55 1 (.getfield 18) 3 4 := ⟨by decide +kernel, rfl⟩
theorem fX6_takeStep_18 : am_fld 55 18 6 1 2 := ⟨by decide, rfl, wd_135⟩
theorem iX6_takeStep_4 : am_at 55 4 (.iload_n 1) 1 5 := ⟨by decide +kernel, rfl⟩
theorem iX6_takeStep_5 : am_at 55 5 (.aaload) 1 6 := ⟨by decide +kernel, rfl⟩
theorem iX6_takeStep_6 : am_at 55 6 (.astore_n 3) 1 7 := ⟨by decide +kernel, rfl⟩
theorem iX6_takeStep_7 : am_at 55 7 (.aload_n 0) 1 8 := ⟨by decide +kernel, rfl⟩
theorem iX6_takeStep_8 : am_at 55 8 (.getfield 11) 3 11 := ⟨by decide +kernel, rfl⟩
theorem fX6_takeStep_11 : am_fld 55 11 6 0 2 := ⟨by decide, rfl, wd_134⟩
theorem iX6_takeStep_11 : am_at 55 11 (.iload_n 2) 1 12 := ⟨by decide +kernel, rfl⟩
theorem iX6_takeStep_12 : am_at 55 12 (.aaload) 1 13 := ⟨by decide +kernel, rfl⟩
theorem iX6_takeStep_13 : am_at 55 13 (.aload_n 3) 1 14 := ⟨by decide +kernel, rfl⟩
theorem iX6_takeStep_14 : am_at 55 14 (.getfield 124) 3 17 := ⟨by decide +kernel, rfl⟩
theorem fX6_takeStep_124 : am_fld 55 124 3 2 2 := ⟨by decide, rfl, wd_87⟩
theorem iX6_takeStep_17 : am_at 55 17 (.iload_n 2) 1 18 := ⟨by decide +kernel, rfl⟩
theorem iX6_takeStep_18 : am_at 55 18 (.iaload) 1 19 := ⟨by decide +kernel, rfl⟩
theorem iX6_takeStep_19 : am_at 55 19 (.iconst 1) 1 20 := ⟨by decide +kernel, rfl⟩
theorem iX6_takeStep_20 : am_at 55 20 (.iadd) 1 21 := ⟨by decide +kernel, rfl⟩
theorem iX6_takeStep_21 : am_at 55 21 (.invokevirtual 203) 3 24 := ⟨by decide +kernel, rfl⟩
theorem cX6_takeStep_203 : am_sV 55 203 2 1 := ⟨wd_427, wd_428, wd_429, rfl, by decide⟩
theorem iX6_takeStep_24 : am_at 55 24 (.astore 4) 2 26 := ⟨by decide +kernel, rfl⟩
theorem iX6_takeStep_26 : am_at 55 26 (.aload 4) 2 28 := ⟨by decide +kernel, rfl⟩
theorem iX6_takeStep_28 : am_jp 55 28 (.ifnonnull 5) 5 33 31 := ⟨by decide +kernel, by decide, rfl⟩
theorem iX6_takeStep_31 : am_at 55 31 (.iconst 0) 1 32 := ⟨by decide +kernel, rfl⟩
theorem iX6_takeStep_32 : am_at 55 32 (.ireturn) 1 33 := ⟨by decide +kernel, rfl⟩
theorem iX6_takeStep_33 : am_at 55 33 (.aload_n 3) 1 34 := ⟨by decide +kernel, rfl⟩
theorem iX6_takeStep_34 : am_at 55 34 (.getfield 124) 3 37 := ⟨by decide +kernel, rfl⟩
theorem iX6_takeStep_37 : am_at 55 37 (.aload 4) 2 39 := ⟨by decide +kernel, rfl⟩
theorem iX6_takeStep_39 : am_at 55 39 (.getfield 221) 3 42 := ⟨by decide +kernel, rfl⟩
theorem fX6_takeStep_221 : am_fld 55 221 0 4 2 := ⟨by decide, rfl, wd_390⟩
theorem iX6_takeStep_42 : am_at 55 42 (.invokestatic 271) 3 45 := ⟨by decide +kernel, rfl⟩
theorem cX6_takeStep_271 : am_sS 55 271 52 := ⟨wd_431, wd_432, wd_1⟩
theorem iX6_takeStep_45 : am_jp 55 45 (.ifCond .ne 5) 5 50 48 := ⟨by decide +kernel, by decide, rfl⟩
theorem iX6_takeStep_48 : am_at 55 48 (.iconst (-1)) 1 49 := ⟨by decide +kernel, rfl⟩
theorem iX6_takeStep_49 : am_at 55 49 (.ireturn) 1 50 := ⟨by decide +kernel, rfl⟩
theorem iX6_takeStep_50 : am_at 55 50 (.aload_n 3) 1 51 := ⟨by decide +kernel, rfl⟩
theorem iX6_takeStep_51 : am_at 55 51 (.getfield 191) 3 54 := ⟨by decide +kernel, rfl⟩
theorem fX6_takeStep_191 : am_fld 55 191 3 0 2 := ⟨by decide, rfl, wd_84⟩
theorem iX6_takeStep_54 : am_at 55 54 (.aload 4) 2 56 := ⟨by decide +kernel, rfl⟩
theorem iX6_takeStep_56 : am_at 55 56 (.invokevirtual 275) 3 59 := ⟨by decide +kernel, rfl⟩
theorem cX6_takeStep_275 : am_sV 55 275 14 5 := ⟨wd_434, wd_435, wd_436, rfl, by decide⟩
theorem iX6_takeStep_59 : am_at 55 59 (.aload_n 3) 1 60 := ⟨by decide +kernel, rfl⟩
theorem iX6_takeStep_60 : am_at 55 60 (.getfield 124) 3 63 := ⟨by decide +kernel, rfl⟩
theorem iX6_takeStep_63 : am_at 55 63 (.iload_n 2) 1 64 := ⟨by decide +kernel, rfl⟩
theorem iX6_takeStep_64 : am_at 55 64 (.dup2) 1 65 := ⟨by decide +kernel, rfl⟩
theorem iX6_takeStep_65 : am_at 55 65 (.iaload) 1 66 := ⟨by decide +kernel, rfl⟩
theorem iX6_takeStep_66 : am_at 55 66 (.iconst 1) 1 67 := ⟨by decide +kernel, rfl⟩
theorem iX6_takeStep_67 : am_at 55 67 (.iadd) 1 68 := ⟨by decide +kernel, rfl⟩
theorem iX6_takeStep_68 : am_at 55 68 (.iastore) 1 69 := ⟨by decide +kernel, rfl⟩
theorem iX6_takeStep_69 : am_at 55 69 (.aload_n 3) 1 70 := ⟨by decide +kernel, rfl⟩
theorem iX6_takeStep_70 : am_at 55 70 (.iload_n 2) 1 71 := ⟨by decide +kernel, rfl⟩
theorem iX6_takeStep_71 : am_at 55 71 (.iconst 1) 1 72 := ⟨by decide +kernel, rfl⟩
theorem iX6_takeStep_72 : am_at 55 72 (.iadd) 1 73 := ⟨by decide +kernel, rfl⟩
theorem iX6_takeStep_73 : am_at 55 73 (.aload_n 0) 1 74 := ⟨by decide +kernel, rfl⟩
theorem iX6_takeStep_74 : am_at 55 74 (.getfield 11) 3 77 := ⟨by decide +kernel, rfl⟩
theorem iX6_takeStep_77 : am_at 55 77 (.arraylength) 1 78 := ⟨by decide +kernel, rfl⟩
theorem iX6_takeStep_78 : am_at 55 78 (.irem) 1 79 := ⟨by decide +kernel, rfl⟩
theorem iX6_takeStep_79 : am_at 55 79 (.putfield 278) 3 82 := ⟨by decide +kernel, rfl⟩
theorem fX6_takeStep_278 : am_fld 55 278 3 5 0 := ⟨by decide, rfl, wd_91⟩
theorem iX6_takeStep_82 : am_at 55 82 (.aload_n 0) 1 83 := ⟨by decide +kernel, rfl⟩
theorem iX6_takeStep_83 : am_at 55 83 (.iload_n 1) 1 84 := ⟨by decide +kernel, rfl⟩
theorem iX6_takeStep_84 : am_at 55 84 (.invokevirtual 51) 3 87 := ⟨by decide +kernel, rfl⟩
theorem cX6_takeStep_51 : am_sV 55 51 60 6 := ⟨wd_282, wd_284, wp_2, rfl, by decide⟩
theorem iX6_takeStep_87 : am_at 55 87 (.iconst 1) 1 88 := ⟨by decide +kernel, rfl⟩
theorem iX6_takeStep_88 : am_at 55 88 (.ireturn) 1 89 := ⟨by decide +kernel, rfl⟩
theorem iX6_takeStepsOfTick_0 : am_at 56 0 (.aload_n 0) 1 1 := ⟨by decide +kernel, rfl⟩
theorem iX6_takeStepsOfTick_1 : am_at 56 1 (.getfield 18) 3 4 := ⟨by decide +kernel, rfl⟩
theorem fX6_takeStepsOfTick_18 : am_fld 56 18 6 1 2 := ⟨by decide, rfl, wd_135⟩
theorem iX6_takeStepsOfTick_4 : am_at 56 4 (.iload_n 1) 1 5 := ⟨by decide +kernel, rfl⟩
theorem iX6_takeStepsOfTick_5 : am_at 56 5 (.aaload) 1 6 := ⟨by decide +kernel, rfl⟩
theorem iX6_takeStepsOfTick_6 : am_at 56 6 (.astore_n 2) 1 7 := ⟨by decide +kernel, rfl⟩
theorem iX6_takeStepsOfTick_7 : am_at 56 7 (.aload_n 2) 1 8 := ⟨by decide +kernel, rfl⟩
theorem iX6_takeStepsOfTick_8 : am_at 56 8 (.getfield 278) 3 11 := ⟨by decide +kernel, rfl⟩
theorem fX6_takeStepsOfTick_278 : am_fld 56 278 3 5 0 := ⟨by decide, rfl, wd_91⟩
theorem iX6_takeStepsOfTick_11 : am_at 56 11 (.istore_n 3) 1 12 := ⟨by decide +kernel, rfl⟩
theorem iX6_takeStepsOfTick_12 : am_at 56 12 (.iconst 0) 1 13 := ⟨by decide +kernel, rfl⟩
theorem iX6_takeStepsOfTick_13 : am_at 56 13 (.istore 4) 2 15 := ⟨by decide +kernel, rfl⟩
theorem iX6_takeStepsOfTick_15 : am_at 56 15 (.iconst 0) 1 16 := ⟨by decide +kernel, rfl⟩
theorem iX6_takeStepsOfTick_16 : am_at 56 16 (.istore 5) 2 18 := ⟨by decide +kernel, rfl⟩
theorem iX6_takeStepsOfTick_18 : am_at 56 18 (.aload_n 2) 1 19 := ⟨by decide +kernel, rfl⟩
theorem iX6_takeStepsOfTick_19 : am_at 56 19 (.getfield 101) 3 22 := ⟨by decide +kernel, rfl⟩
theorem fX6_takeStepsOfTick_101 : am_fld 56 101 3 4 0 := ⟨by decide, rfl, wd_90⟩
theorem iX6_takeStepsOfTick_22 : am_at 56 22 (.aload_n 0) 1 23 := ⟨by decide +kernel, rfl⟩
theorem iX6_takeStepsOfTick_23 : am_at 56 23 (.getfield 11) 3 26 := ⟨by decide +kernel, rfl⟩
theorem fX6_takeStepsOfTick_11 : am_fld 56 11 6 0 2 := ⟨by decide, rfl, wd_134⟩
theorem iX6_takeStepsOfTick_26 : am_at 56 26 (.arraylength) 1 27 := ⟨by decide +kernel, rfl⟩
theorem iX6_takeStepsOfTick_27 : am_at 56 27 (.imul) 1 28 := ⟨by decide +kernel, rfl⟩
theorem iX6_takeStepsOfTick_28 : am_at 56 28 (.istore 6) 2 30 := ⟨by decide +kernel, rfl⟩
theorem iX6_takeStepsOfTick_30 : am_at 56 30 (.iconst 0) 1 31 := ⟨by decide +kernel, rfl⟩
theorem iX6_takeStepsOfTick_31 : am_at 56 31 (.istore 7) 2 33 := ⟨by decide +kernel, rfl⟩
theorem iX6_takeStepsOfTick_33 : am_at 56 33 (.iload 7) 2 35 := ⟨by decide +kernel, rfl⟩
theorem iX6_takeStepsOfTick_35 : am_at 56 35 (.iload 6) 2 37 := ⟨by decide +kernel, rfl⟩
theorem iX6_takeStepsOfTick_37 : am_jp 56 37 (.if_icmp .ge 60) 60 97 40 := ⟨by decide +kernel, by decide, rfl⟩
theorem iX6_takeStepsOfTick_40 : am_at 56 40 (.iload 4) 2 42 := ⟨by decide +kernel, rfl⟩
theorem iX6_takeStepsOfTick_42 : am_at 56 42 (.aload_n 2) 1 43 := ⟨by decide +kernel, rfl⟩
theorem iX6_takeStepsOfTick_43 : am_at 56 43 (.getfield 101) 3 46 := ⟨by decide +kernel, rfl⟩
theorem iX6_takeStepsOfTick_46 : am_jp 56 46 (.if_icmp .ge 51) 51 97 49 := ⟨by decide +kernel, by decide, rfl⟩
theorem iX6_takeStepsOfTick_49 : am_at 56 49 (.iload 5) 2 51 := ⟨by decide +kernel, rfl⟩
theorem iX6_takeStepsOfTick_51 : am_at 56 51 (.aload_n 0) 1 52 := ⟨by decide +kernel, rfl⟩
theorem iX6_takeStepsOfTick_52 : am_at 56 52 (.getfield 11) 3 55 := ⟨by decide +kernel, rfl⟩
theorem iX6_takeStepsOfTick_55 : am_at 56 55 (.arraylength) 1 56 := ⟨by decide +kernel, rfl⟩
theorem iX6_takeStepsOfTick_56 : am_jp 56 56 (.if_icmp .ge 41) 41 97 59 := ⟨by decide +kernel, by decide, rfl⟩
theorem iX6_takeStepsOfTick_59 : am_at 56 59 (.aload_n 0) 1 60 := ⟨by decide +kernel, rfl⟩
theorem iX6_takeStepsOfTick_60 : am_at 56 60 (.iload_n 1) 1 61 := ⟨by decide +kernel, rfl⟩
theorem iX6_takeStepsOfTick_61 : am_at 56 61 (.iload_n 3) 1 62 := ⟨by decide +kernel, rfl⟩
theorem iX6_takeStepsOfTick_62 : am_at 56 62 (.invokevirtual 97) 3 65 := ⟨by decide +kernel, rfl⟩
theorem cX6_takeStepsOfTick_97 : am_sV 56 97 55 6 := ⟨wd_423, wd_425, wp_7, rfl, by decide⟩
theorem iX6_takeStepsOfTick_65 : am_at 56 65 (.iconst 1) 1 66 := ⟨by decide +kernel, rfl⟩
theorem iX6_takeStepsOfTick_66 : am_jp 56 66 (.if_icmp .ne 12) 12 78 69 := ⟨by decide +kernel, by decide, rfl⟩
theorem iX6_takeStepsOfTick_69 : am_at 56 69 (.iinc 4 1) 3 72 := ⟨by decide +kernel, rfl⟩
theorem iX6_takeStepsOfTick_72 : am_at 56 72 (.iconst 0) 1 73 := ⟨by decide +kernel, rfl⟩
theorem iX6_takeStepsOfTick_73 : am_at 56 73 (.istore 5) 2 75 := ⟨by decide +kernel, rfl⟩
theorem iX6_takeStepsOfTick_75 : am_jp 56 75 (.goto 6) 6 81 78 := ⟨by decide +kernel, by decide, rfl⟩
theorem iX6_takeStepsOfTick_78 : am_at 56 78 (.iinc 5 1) 3 81 := ⟨by decide +kernel, rfl⟩
theorem iX6_takeStepsOfTick_81 : am_at 56 81 (.iload_n 3) 1 82 := ⟨by decide +kernel, rfl⟩
theorem iX6_takeStepsOfTick_82 : am_at 56 82 (.iconst 1) 1 83 := ⟨by decide +kernel, rfl⟩
theorem iX6_takeStepsOfTick_83 : am_at 56 83 (.iadd) 1 84 := ⟨by decide +kernel, rfl⟩
theorem iX6_takeStepsOfTick_84 : am_at 56 84 (.aload_n 0) 1 85 := ⟨by decide +kernel, rfl⟩
theorem iX6_takeStepsOfTick_85 : am_at 56 85 (.getfield 11) 3 88 := ⟨by decide +kernel, rfl⟩
theorem iX6_takeStepsOfTick_88 : am_at 56 88 (.arraylength) 1 89 := ⟨by decide +kernel, rfl⟩
theorem iX6_takeStepsOfTick_89 : am_at 56 89 (.irem) 1 90 := ⟨by decide +kernel, rfl⟩
theorem iX6_takeStepsOfTick_90 : am_at 56 90 (.istore_n 3) 1 91 := ⟨by decide +kernel, rfl⟩
theorem iX6_takeStepsOfTick_91 : am_at 56 91 (.iinc 7 1) 3 94 := ⟨by decide +kernel, rfl⟩
theorem iX6_takeStepsOfTick_94 : am_jp 56 94 (.goto (-61)) (-61) 33 97 := ⟨by decide +kernel, by decide, rfl⟩
theorem iX6_takeStepsOfTick_97 : am_at 56 97 (.iload 4) 2 99 := ⟨by decide +kernel, rfl⟩
theorem iX6_takeStepsOfTick_99 : am_at 56 99 (.ireturn) 1 100 := ⟨by decide +kernel, rfl⟩
theorem iX6_firstThatMay_0 : am_at 57 0 (.aload_n 0) 1 1 := ⟨by decide +kernel, rfl⟩
theorem iX6_firstThatMay_1 : am_at 57 1 (.getfield 25) 3 4 := ⟨by decide +kernel, rfl⟩
theorem fX6_firstThatMay_25 : am_fld 57 25 6 2 2 := ⟨by decide, rfl, wd_136⟩
theorem iX6_firstThatMay_4 : am_at 57 4 (.aload_n 1) 1 5 := ⟨by decide +kernel, rfl⟩
theorem iX6_firstThatMay_5 : am_at 57 5 (.getfield 183) 3 8 := ⟨by decide +kernel, rfl⟩
theorem fX6_firstThatMay_183 : am_fld 57 183 2 0 0 := ⟨by decide, rfl, wd_548⟩
theorem iX6_firstThatMay_8 : am_at 57 8 (.aaload) 1 9 := ⟨by decide +kernel, rfl⟩
theorem iX6_firstThatMay_9 : am_at 57 9 (.getfield 55) 3 12 := ⟨by decide +kernel, rfl⟩
theorem fX6_firstThatMay_55 : am_fld 57 55 4 3 0 := ⟨by decide, rfl, wd_122⟩
theorem iX6_firstThatMay_12 : am_at 57 12 (.istore_n 2) 1 13 := ⟨by decide +kernel, rfl⟩
theorem iX6_firstThatMay_13 : am_at 57 13 (.iconst 0) 1 14 := ⟨by decide +kernel, rfl⟩
theorem iX6_firstThatMay_14 : am_at 57 14 (.istore_n 3) 1 15 := ⟨by decide +kernel, rfl⟩
theorem iX6_firstThatMay_15 : am_at 57 15 (.iload_n 3) 1 16 := ⟨by decide +kernel, rfl⟩
theorem iX6_firstThatMay_16 : am_at 57 16 (.aload_n 0) 1 17 := ⟨by decide +kernel, rfl⟩
theorem iX6_firstThatMay_17 : am_at 57 17 (.getfield 18) 3 20 := ⟨by decide +kernel, rfl⟩
theorem fX6_firstThatMay_18 : am_fld 57 18 6 1 2 := ⟨by decide, rfl, wd_135⟩
theorem iX6_firstThatMay_20 : am_at 57 20 (.arraylength) 1 21 := ⟨by decide +kernel, rfl⟩
theorem iX6_firstThatMay_21 : am_jp 57 21 (.if_icmp .ge 38) 38 59 24 := ⟨by decide +kernel, by decide, rfl⟩
theorem iX6_firstThatMay_24 : am_at 57 24 (.iload_n 2) 1 25 := ⟨by decide +kernel, rfl⟩
theorem iX6_firstThatMay_25 : am_at 57 25 (.iload_n 3) 1 26 := ⟨by decide +kernel, rfl⟩
theorem iX6_firstThatMay_26 : am_at 57 26 (.iadd) 1 27 := ⟨by decide +kernel, rfl⟩
theorem iX6_firstThatMay_27 : am_at 57 27 (.aload_n 0) 1 28 := ⟨by decide +kernel, rfl⟩
theorem iX6_firstThatMay_28 : am_at 57 28 (.getfield 18) 3 31 := ⟨by decide +kernel, rfl⟩
theorem iX6_firstThatMay_31 : am_at 57 31 (.arraylength) 1 32 := ⟨by decide +kernel, rfl⟩
theorem iX6_firstThatMay_32 : am_at 57 32 (.irem) 1 33 := ⟨by decide +kernel, rfl⟩
theorem iX6_firstThatMay_33 : am_at 57 33 (.istore 4) 2 35 := ⟨by decide +kernel, rfl⟩
theorem iX6_firstThatMay_35 : am_at 57 35 (.aload_n 0) 1 36 := ⟨by decide +kernel, rfl⟩
theorem iX6_firstThatMay_36 : am_at 57 36 (.aload_n 0) 1 37 := ⟨by decide +kernel, rfl⟩
theorem iX6_firstThatMay_37 : am_at 57 37 (.getfield 18) 3 40 := ⟨by decide +kernel, rfl⟩
theorem iX6_firstThatMay_40 : am_at 57 40 (.iload 4) 2 42 := ⟨by decide +kernel, rfl⟩
theorem iX6_firstThatMay_42 : am_at 57 42 (.aaload) 1 43 := ⟨by decide +kernel, rfl⟩
theorem iX6_firstThatMay_43 : am_at 57 43 (.aload_n 1) 1 44 := ⟨by decide +kernel, rfl⟩
theorem iX6_firstThatMay_44 : am_at 57 44 (.invokevirtual 281) 3 47 := ⟨by decide +kernel, rfl⟩
theorem cX6_firstThatMay_281 : am_sV 57 281 58 6 := ⟨wd_286, wd_288, wp_3, rfl, by decide⟩
theorem iX6_firstThatMay_47 : am_jp 57 47 (.ifCond .eq 6) 6 53 50 := ⟨by decide +kernel, by decide, rfl⟩
theorem iX6_firstThatMay_50 : am_at 57 50 (.iload 4) 2 52 := ⟨by decide +kernel, rfl⟩
theorem iX6_firstThatMay_52 : am_at 57 52 (.ireturn) 1 53 := ⟨by decide +kernel, rfl⟩
theorem iX6_firstThatMay_53 : am_at 57 53 (.iinc 3 1) 3 56 := ⟨by decide +kernel, rfl⟩
theorem iX6_firstThatMay_56 : am_jp 57 56 (.goto (-41)) (-41) 15 59 := ⟨by decide +kernel, by decide, rfl⟩
theorem iX6_firstThatMay_59 : am_at 57 59 (.iconst (-1)) 1 60 := ⟨by decide +kernel, rfl⟩
theorem iX6_firstThatMay_60 : am_at 57 60 (.ireturn) 1 61 := ⟨by decide +kernel, rfl⟩
theorem iX6_mayAnswer_0 : am_at 58 0 (.aload_n 1) 1 1 := ⟨by decide +kernel, rfl⟩
theorem iX6_mayAnswer_1 : am_at 58 1 (.getfield 93) 3 4 := ⟨by decide +kernel, rfl⟩
theorem fX6_mayAnswer_93 : am_fld 58 93 3 6 0 := ⟨by decide, rfl, wd_93⟩
theorem iX6_mayAnswer_4 : am_jp 58 4 (.ifCond .ne 5) 5 9 7 := ⟨by decide +kernel, by decide, rfl⟩
theorem iX6_mayAnswer_7 : am_at 58 7 (.iconst 0) 1 8 := ⟨by decide +kernel, rfl⟩
theorem iX6_mayAnswer_8 : am_at 58 8 (.ireturn) 1 9 := ⟨by decide +kernel, rfl⟩
theorem iX6_mayAnswer_9 : am_at 58 9 (.iconst 0) 1 10 := ⟨by decide +kernel, rfl⟩
theorem iX6_mayAnswer_10 : am_at 58 10 (.istore_n 3) 1 11 := ⟨by decide +kernel, rfl⟩
theorem iX6_mayAnswer_11 : am_at 58 11 (.iload_n 3) 1 12 := ⟨by decide +kernel, rfl⟩
theorem iX6_mayAnswer_12 : am_at 58 12 (.aload_n 0) 1 13 := ⟨by decide +kernel, rfl⟩
theorem iX6_mayAnswer_13 : am_at 58 13 (.getfield 11) 3 16 := ⟨by decide +kernel, rfl⟩
theorem fX6_mayAnswer_11 : am_fld 58 11 6 0 2 := ⟨by decide, rfl, wd_134⟩
theorem iX6_mayAnswer_16 : am_at 58 16 (.arraylength) 1 17 := ⟨by decide +kernel, rfl⟩
theorem iX6_mayAnswer_17 : am_jp 58 17 (.if_icmp .ge 26) 26 43 20 := ⟨by decide +kernel, by decide, rfl⟩
theorem iX6_mayAnswer_20 : am_at 58 20 (.aload_n 1) 1 21 := ⟨by decide +kernel, rfl⟩
theorem iX6_mayAnswer_21 : am_at 58 21 (.getfield 124) 3 24 := ⟨by decide +kernel, rfl⟩
theorem fX6_mayAnswer_124 : am_fld 58 124 3 2 2 := ⟨by decide, rfl, wd_87⟩
theorem iX6_mayAnswer_24 : am_at 58 24 (.iload_n 3) 1 25 := ⟨by decide +kernel, rfl⟩
theorem iX6_mayAnswer_25 : am_at 58 25 (.iaload) 1 26 := ⟨by decide +kernel, rfl⟩
theorem iX6_mayAnswer_26 : am_at 58 26 (.aload_n 0) 1 27 := ⟨by decide +kernel, rfl⟩
theorem iX6_mayAnswer_27 : am_at 58 27 (.aload_n 2) 1 28 := ⟨by decide +kernel, rfl⟩
theorem iX6_mayAnswer_28 : am_at 58 28 (.iload_n 3) 1 29 := ⟨by decide +kernel, rfl⟩
theorem iX6_mayAnswer_29 : am_at 58 29 (.invokevirtual 285) 3 32 := ⟨by decide +kernel, rfl⟩
theorem cX6_mayAnswer_285 : am_sV 58 285 59 6 := ⟨wd_290, wd_292, wp_4, rfl, by decide⟩
theorem iX6_mayAnswer_32 : am_jp 58 32 (.if_icmp .ge 5) 5 37 35 := ⟨by decide +kernel, by decide, rfl⟩
theorem iX6_mayAnswer_35 : am_at 58 35 (.iconst 0) 1 36 := ⟨by decide +kernel, rfl⟩
theorem iX6_mayAnswer_36 : am_at 58 36 (.ireturn) 1 37 := ⟨by decide +kernel, rfl⟩
theorem iX6_mayAnswer_37 : am_at 58 37 (.iinc 3 1) 3 40 := ⟨by decide +kernel, rfl⟩
theorem iX6_mayAnswer_40 : am_jp 58 40 (.goto (-29)) (-29) 11 43 := ⟨by decide +kernel, by decide, rfl⟩
theorem iX6_mayAnswer_43 : am_at 58 43 (.iconst 1) 1 44 := ⟨by decide +kernel, rfl⟩
theorem iX6_mayAnswer_44 : am_at 58 44 (.ireturn) 1 45 := ⟨by decide +kernel, rfl⟩
theorem iX6_leastFor_0 : am_at 59 0 (.aload_n 0) 1 1 := ⟨by decide +kernel, rfl⟩
theorem iX6_leastFor_1 : am_at 59 1 (.getfield 25) 3 4 := ⟨by decide +kernel, rfl⟩
theorem fX6_leastFor_25 : am_fld 59 25 6 2 2 := ⟨by decide, rfl, wd_136⟩
theorem iX6_leastFor_4 : am_at 59 4 (.aload_n 1) 1 5 := ⟨by decide +kernel, rfl⟩
theorem iX6_leastFor_5 : am_at 59 5 (.getfield 183) 3 8 := ⟨by decide +kernel, rfl⟩
theorem fX6_leastFor_183 : am_fld 59 183 2 0 0 := ⟨by decide, rfl, wd_548⟩
theorem iX6_leastFor_8 : am_at 59 8 (.aaload) 1 9 := ⟨by decide +kernel, rfl⟩
theorem iX6_leastFor_9 : am_at 59 9 (.astore_n 3) 1 10 := ⟨by decide +kernel, rfl⟩
theorem iX6_leastFor_10 : am_at 59 10 (.aload_n 1) 1 11 := ⟨by decide +kernel, rfl⟩
theorem iX6_leastFor_11 : am_at 59 11 (.getfield 289) 3 14 := ⟨by decide +kernel, rfl⟩
theorem fX6_leastFor_289 : am_fld 59 289 2 5 1 := ⟨by decide, rfl, wd_558⟩
theorem iX6_leastFor_14 : am_at 59 14 (.iload_n 2) 1 15 := ⟨by decide +kernel, rfl⟩
theorem iX6_leastFor_15 : am_at 59 15 (.invokestatic 227) 3 18 := ⟨by decide +kernel, rfl⟩
theorem cX6_leastFor_227 : am_sS 59 227 50 := ⟨wd_294, wd_295, wd_1⟩
theorem iX6_leastFor_18 : am_at 59 18 (.istore 4) 2 20 := ⟨by decide +kernel, rfl⟩
theorem iX6_leastFor_20 : am_at 59 20 (.aload_n 3) 1 21 := ⟨by decide +kernel, rfl⟩
theorem iX6_leastFor_21 : am_at 59 21 (.getfield 47) 3 24 := ⟨by decide +kernel, rfl⟩
theorem fX6_leastFor_47 : am_fld 59 47 4 2 0 := ⟨by decide, rfl, wd_121⟩
theorem iX6_leastFor_24 : am_at 59 24 (.iconst 1) 1 25 := ⟨by decide +kernel, rfl⟩
theorem iX6_leastFor_25 : am_at 59 25 (.iand) 1 26 := ⟨by decide +kernel, rfl⟩
theorem iX6_leastFor_26 : am_jp 59 26 (.ifCond .eq 16) 16 42 29 := ⟨by decide +kernel, by decide, rfl⟩
theorem iX6_leastFor_29 : am_at 59 29 (.iload 4) 2 31 := ⟨by decide +kernel, rfl⟩
theorem iX6_leastFor_31 : am_at 59 31 (.aload_n 3) 1 32 := ⟨by decide +kernel, rfl⟩
theorem iX6_leastFor_32 : am_at 59 32 (.getfield 81) 3 35 := ⟨by decide +kernel, rfl⟩
theorem fX6_leastFor_81 : am_fld 59 81 4 0 2 := ⟨by decide, rfl, wd_117⟩
theorem iX6_leastFor_35 : am_at 59 35 (.iload_n 2) 1 36 := ⟨by decide +kernel, rfl⟩
theorem iX6_leastFor_36 : am_at 59 36 (.iaload) 1 37 := ⟨by decide +kernel, rfl⟩
theorem iX6_leastFor_37 : am_at 59 37 (.invokestatic 263) 3 40 := ⟨by decide +kernel, rfl⟩
theorem iX6_leastFor_40 : am_at 59 40 (.istore 4) 2 42 := ⟨by decide +kernel, rfl⟩
theorem iX6_leastFor_42 : am_at 59 42 (.aload_n 3) 1 43 := ⟨by decide +kernel, rfl⟩
theorem iX6_leastFor_43 : am_at 59 43 (.getfield 47) 3 46 := ⟨by decide +kernel, rfl⟩
theorem iX6_leastFor_46 : am_at 59 46 (.iconst 2) 1 47 := ⟨by decide +kernel, rfl⟩
theorem iX6_leastFor_47 : am_at 59 47 (.iand) 1 48 := ⟨by decide +kernel, rfl⟩
theorem iX6_leastFor_48 : am_jp 59 48 (.ifCond .eq 16) 16 64 51 := ⟨by decide +kernel, by decide, rfl⟩
theorem iX6_leastFor_51 : am_at 59 51 (.iload 4) 2 53 := ⟨by decide +kernel, rfl⟩
theorem iX6_leastFor_53 : am_at 59 53 (.aload_n 3) 1 54 := ⟨by decide +kernel, rfl⟩
theorem iX6_leastFor_54 : am_at 59 54 (.getfield 224) 3 57 := ⟨by decide +kernel, rfl⟩
theorem fX6_leastFor_224 : am_fld 59 224 4 1 2 := ⟨by decide, rfl, wd_119⟩
theorem iX6_leastFor_57 : am_at 59 57 (.iload_n 2) 1 58 := ⟨by decide +kernel, rfl⟩
theorem iX6_leastFor_58 : am_at 59 58 (.iaload) 1 59 := ⟨by decide +kernel, rfl⟩
theorem iX6_leastFor_59 : am_at 59 59 (.invokestatic 263) 3 62 := ⟨by decide +kernel, rfl⟩
theorem iX6_leastFor_62 : am_at 59 62 (.istore 4) 2 64 := ⟨by decide +kernel, rfl⟩
theorem iX6_leastFor_64 : am_at 59 64 (.aload_n 1) 1 65 := ⟨by decide +kernel, rfl⟩
theorem iX6_leastFor_65 : am_at 59 65 (.getfield 292) 3 68 := ⟨by decide +kernel, rfl⟩
theorem fX6_leastFor_292 : am_fld 59 292 2 1 0 := ⟨by decide, rfl, wd_550⟩
theorem iX6_leastFor_68 : am_at 59 68 (.iconst (-1)) 1 69 := ⟨by decide +kernel, rfl⟩
theorem iX6_leastFor_69 : am_jp 59 69 (.if_icmp .eq 24) 24 93 72 := ⟨by decide +kernel, by decide, rfl⟩
theorem iX6_leastFor_72 : am_at 59 72 (.iload 4) 2 74 := ⟨by decide +kernel, rfl⟩
theorem iX6_leastFor_74 : am_at 59 74 (.aload_n 0) 1 75 := ⟨by decide +kernel, rfl⟩
theorem iX6_leastFor_75 : am_at 59 75 (.getfield 11) 3 78 := ⟨by decide +kernel, rfl⟩
theorem fX6_leastFor_11 : am_fld 59 11 6 0 2 := ⟨by decide, rfl, wd_134⟩
theorem iX6_leastFor_78 : am_at 59 78 (.iload_n 2) 1 79 := ⟨by decide +kernel, rfl⟩
theorem iX6_leastFor_79 : am_at 59 79 (.aaload) 1 80 := ⟨by decide +kernel, rfl⟩
theorem iX6_leastFor_80 : am_at 59 80 (.getfield 58) 3 83 := ⟨by decide +kernel, rfl⟩
theorem fX6_leastFor_58 : am_fld 59 58 1 1 0 := ⟨by decide, rfl, wd_36⟩
theorem iX6_leastFor_83 : am_at 59 83 (.aload_n 1) 1 84 := ⟨by decide +kernel, rfl⟩
theorem iX6_leastFor_84 : am_at 59 84 (.getfield 292) 3 87 := ⟨by decide +kernel, rfl⟩
theorem iX6_leastFor_87 : am_at 59 87 (.isub) 1 88 := ⟨by decide +kernel, rfl⟩
theorem iX6_leastFor_88 : am_at 59 88 (.invokestatic 263) 3 91 := ⟨by decide +kernel, rfl⟩
theorem iX6_leastFor_91 : am_at 59 91 (.istore 4) 2 93 := ⟨by decide +kernel, rfl⟩
theorem iX6_leastFor_93 : am_at 59 93 (.iload 4) 2 95 := ⟨by decide +kernel, rfl⟩
theorem iX6_leastFor_95 : am_at 59 95 (.ireturn) 1 96 := ⟨by decide +kernel, rfl⟩
theorem iX6_lookAtWaiting_0 : am_at 60 0 (.iconst 0) 1 1 := ⟨by decide +kernel, rfl⟩
theorem iX6_lookAtWaiting_1 : am_at 60 1 (.istore_n 2) 1 2 := ⟨by decide +kernel, rfl⟩
theorem iX6_lookAtWaiting_2 : am_at 60 2 (.iload_n 2) 1 3 := ⟨by decide +kernel, rfl⟩
theorem iX6_lookAtWaiting_3 : am_at 60 3 (.aload_n 0) 1 4 := ⟨by decide +kernel, rfl⟩
theorem iX6_lookAtWaiting_4 : am_at 60 4 (.getfield 155) 3 7 := ⟨by decide +kernel, rfl⟩
theorem fX6_lookAtWaiting_155 : am_fld 60 155 6 6 0 := ⟨by decide, rfl, wd_140⟩
theorem iX6_lookAtWaiting_7 : am_jp 60 7 (.if_icmp .ge 39) 39 46 10 := ⟨by decide +kernel, by decide, rfl⟩
theorem iX6_lookAtWaiting_10 : am_at 60 10 (.aload_n 0) 1 11 := ⟨by decide +kernel, rfl⟩
theorem iX6_lookAtWaiting_11 : am_at 60 11 (.aload_n 0) 1 12 := ⟨by decide +kernel, rfl⟩
theorem iX6_lookAtWaiting_12 : am_at 60 12 (.getfield 18) 3 15 := ⟨by decide +kernel, rfl⟩
theorem fX6_lookAtWaiting_18 : am_fld 60 18 6 1 2 := ⟨by decide, rfl, wd_135⟩
theorem iX6_lookAtWaiting_15 : am_at 60 15 (.iload_n 1) 1 16 := ⟨by decide +kernel, rfl⟩
theorem iX6_lookAtWaiting_16 : am_at 60 16 (.aaload) 1 17 := ⟨by decide +kernel, rfl⟩
theorem iX6_lookAtWaiting_17 : am_at 60 17 (.aload_n 0) 1 18 := ⟨by decide +kernel, rfl⟩
theorem iX6_lookAtWaiting_18 : am_at 60 18 (.getfield 36) 3 21 := ⟨by decide +kernel, rfl⟩
theorem fX6_lookAtWaiting_36 : am_fld 60 36 6 4 2 := ⟨by decide, rfl, wd_138⟩
theorem iX6_lookAtWaiting_21 : am_at 60 21 (.iload_n 2) 1 22 := ⟨by decide +kernel, rfl⟩
theorem iX6_lookAtWaiting_22 : am_at 60 22 (.aaload) 1 23 := ⟨by decide +kernel, rfl⟩
theorem iX6_lookAtWaiting_23 : am_at 60 23 (.invokevirtual 281) 3 26 := ⟨by decide +kernel, rfl⟩
theorem cX6_lookAtWaiting_281 : am_sV 60 281 58 6 := ⟨wd_286, wd_288, wp_3, rfl, by decide⟩
theorem iX6_lookAtWaiting_26 : am_jp 60 26 (.ifCond .eq 14) 14 40 29 := ⟨by decide +kernel, by decide, rfl⟩
theorem iX6_lookAtWaiting_29 : am_at 60 29 (.aload_n 0) 1 30 := ⟨by decide +kernel, rfl⟩
theorem iX6_lookAtWaiting_30 : am_at 60 30 (.aload_n 0) 1 31 := ⟨by decide +kernel, rfl⟩
theorem iX6_lookAtWaiting_31 : am_at 60 31 (.getfield 36) 3 34 := ⟨by decide +kernel, rfl⟩
theorem iX6_lookAtWaiting_34 : am_at 60 34 (.iload_n 2) 1 35 := ⟨by decide +kernel, rfl⟩
theorem iX6_lookAtWaiting_35 : am_at 60 35 (.aaload) 1 36 := ⟨by decide +kernel, rfl⟩
theorem iX6_lookAtWaiting_36 : am_at 60 36 (.iload_n 1) 1 37 := ⟨by decide +kernel, rfl⟩
theorem iX6_lookAtWaiting_37 : am_at 60 37 (.invokevirtual 164) 3 40 := ⟨by decide +kernel, rfl⟩
theorem cX6_lookAtWaiting_164 : am_sV 60 164 63 6 := ⟨wd_300, wd_302, wp_5, rfl, by decide⟩
theorem iX6_lookAtWaiting_40 : am_at 60 40 (.iinc 2 1) 3 43 := ⟨by decide +kernel, rfl⟩
theorem iX6_lookAtWaiting_43 : am_jp 60 43 (.goto (-41)) (-41) 2 46 := ⟨by decide +kernel, by decide, rfl⟩
theorem iX6_lookAtWaiting_46 : am_at 60 46 (.aload_n 0) 1 47 := ⟨by decide +kernel, rfl⟩
theorem iX6_lookAtWaiting_47 : am_at 60 47 (.invokevirtual 295) 3 50 := ⟨by decide +kernel, rfl⟩
theorem cX6_lookAtWaiting_295 : am_sV 60 295 62 6 := ⟨wd_332, wd_334, wp_6, rfl, by decide⟩
theorem iX6_lookAtWaiting_50 : am_at 60 50 (.return_) 1 51 := ⟨by decide +kernel, rfl⟩
theorem iX6_failOverdue_0 : am_at 61 0 (.iconst 0) 1 1 := ⟨by decide +kernel, rfl⟩
theorem iX6_failOverdue_1 : am_at 61 1 (.istore_n 1) 1 2 := ⟨by decide +kernel, rfl⟩
theorem iX6_failOverdue_2 : am_at 61 2 (.iload_n 1) 1 3 := ⟨by decide +kernel, rfl⟩
theorem iX6_failOverdue_3 : am_at 61 3 (.aload_n 0) 1 4 := ⟨by decide +kernel, rfl⟩
theorem iX6_failOverdue_4 : am_at 61 4 (.getfield 155) 3 7 := ⟨by decide +kernel, rfl⟩
theorem fX6_failOverdue_155 : am_fld 61 155 6 6 0 := ⟨by decide, rfl, wd_140⟩
theorem iX6_failOverdue_7 : am_jp 61 7 (.if_icmp .ge 35) 35 42 10 := ⟨by decide +kernel, by decide, rfl⟩
theorem iX6_failOverdue_10 : am_at 61 10 (.aload_n 0) 1 11 := ⟨by decide +kernel, rfl⟩
theorem iX6_failOverdue_11 : am_at 61 11 (.getfield 36) 3 14 := ⟨by decide +kernel, rfl⟩
theorem fX6_failOverdue_36 : am_fld 61 36 6 4 2 := ⟨by decide, rfl, wd_138⟩
theorem iX6_failOverdue_14 : am_at 61 14 (.iload_n 1) 1 15 := ⟨by decide +kernel, rfl⟩
theorem iX6_failOverdue_15 : am_at 61 15 (.aaload) 1 16 := ⟨by decide +kernel, rfl⟩
theorem iX6_failOverdue_16 : am_at 61 16 (.getfield 298) 3 19 := ⟨by decide +kernel, rfl⟩
theorem fX6_failOverdue_298 : am_fld 61 298 2 2 0 := ⟨by decide, rfl, wd_552⟩
theorem iX6_failOverdue_19 : am_at 61 19 (.aload_n 0) 1 20 := ⟨by decide +kernel, rfl⟩
theorem iX6_failOverdue_20 : am_at 61 20 (.getfield 104) 3 23 := ⟨by decide +kernel, rfl⟩
theorem fX6_failOverdue_104 : am_fld 61 104 6 9 0 := ⟨by decide, rfl, wd_143⟩
theorem iX6_failOverdue_23 : am_jp 61 23 (.if_icmp .gt 13) 13 36 26 := ⟨by decide +kernel, by decide, rfl⟩
theorem iX6_failOverdue_26 : am_at 61 26 (.aload_n 0) 1 27 := ⟨by decide +kernel, rfl⟩
theorem iX6_failOverdue_27 : am_at 61 27 (.aload_n 0) 1 28 := ⟨by decide +kernel, rfl⟩
theorem iX6_failOverdue_28 : am_at 61 28 (.getfield 36) 3 31 := ⟨by decide +kernel, rfl⟩
theorem iX6_failOverdue_31 : am_at 61 31 (.iload_n 1) 1 32 := ⟨by decide +kernel, rfl⟩
theorem iX6_failOverdue_32 : am_at 61 32 (.aaload) 1 33 := ⟨by decide +kernel, rfl⟩
theorem iX6_failOverdue_33 : am_at 61 33 (.invokevirtual 160) 3 36 := ⟨by decide +kernel, rfl⟩
theorem cX6_failOverdue_160 : am_sV 61 160 64 6 := ⟨wd_478, wd_480, wp_10, rfl, by decide⟩
theorem iX6_failOverdue_36 : am_at 61 36 (.iinc 1 1) 3 39 := ⟨by decide +kernel, rfl⟩
theorem iX6_failOverdue_39 : am_jp 61 39 (.goto (-37)) (-37) 2 42 := ⟨by decide +kernel, by decide, rfl⟩
theorem iX6_failOverdue_42 : am_at 61 42 (.aload_n 0) 1 43 := ⟨by decide +kernel, rfl⟩
theorem iX6_failOverdue_43 : am_at 61 43 (.invokevirtual 295) 3 46 := ⟨by decide +kernel, rfl⟩
theorem cX6_failOverdue_295 : am_sV 61 295 62 6 := ⟨wd_332, wd_334, wp_6, rfl, by decide⟩
theorem iX6_failOverdue_46 : am_at 61 46 (.return_) 1 47 := ⟨by decide +kernel, rfl⟩
theorem iX6_forgetEnded_0 : am_at 62 0 (.iconst 0) 1 1 := ⟨by decide +kernel, rfl⟩
theorem iX6_forgetEnded_1 : am_at 62 1 (.istore_n 1) 1 2 := ⟨by decide +kernel, rfl⟩
theorem iX6_forgetEnded_2 : am_at 62 2 (.iconst 0) 1 3 := ⟨by decide +kernel, rfl⟩
theorem iX6_forgetEnded_3 : am_at 62 3 (.istore_n 2) 1 4 := ⟨by decide +kernel, rfl⟩
theorem iX6_forgetEnded_4 : am_at 62 4 (.iload_n 2) 1 5 := ⟨by decide +kernel, rfl⟩
theorem iX6_forgetEnded_5 : am_at 62 5 (.aload_n 0) 1 6 := ⟨by decide +kernel, rfl⟩
theorem iX6_forgetEnded_6 : am_at 62 6 (.getfield 155) 3 9 := ⟨by decide +kernel, rfl⟩
theorem fX6_forgetEnded_155 : am_fld 62 155 6 6 0 := ⟨by decide, rfl, wd_140⟩
theorem iX6_forgetEnded_9 : am_jp 62 9 (.if_icmp .ge 36) 36 45 12 := ⟨by decide +kernel, by decide, rfl⟩
theorem iX6_forgetEnded_12 : am_at 62 12 (.aload_n 0) 1 13 := ⟨by decide +kernel, rfl⟩
theorem iX6_forgetEnded_13 : am_at 62 13 (.getfield 36) 3 16 := ⟨by decide +kernel, rfl⟩
theorem fX6_forgetEnded_36 : am_fld 62 36 6 4 2 := ⟨by decide, rfl, wd_138⟩
theorem iX6_forgetEnded_16 : am_at 62 16 (.iload_n 2) 1 17 := ⟨by decide +kernel, rfl⟩
theorem iX6_forgetEnded_17 : am_at 62 17 (.aaload) 1 18 := ⟨by decide +kernel, rfl⟩
theorem iX6_forgetEnded_18 : am_at 62 18 (.getfield 168) 3 21 := ⟨by decide +kernel, rfl⟩
theorem fX6_forgetEnded_168 : am_fld 62 168 2 6 0 := ⟨by decide, rfl, wd_560⟩
theorem iX6_forgetEnded_21 : am_jp 62 21 (.ifCond .ne 18) 18 39 24 := ⟨by decide +kernel, by decide, rfl⟩
theorem iX6_forgetEnded_24 : am_at 62 24 (.aload_n 0) 1 25 := ⟨by decide +kernel, rfl⟩
theorem iX6_forgetEnded_25 : am_at 62 25 (.getfield 36) 3 28 := ⟨by decide +kernel, rfl⟩
theorem iX6_forgetEnded_28 : am_at 62 28 (.iload_n 1) 1 29 := ⟨by decide +kernel, rfl⟩
theorem iX6_forgetEnded_29 : am_at 62 29 (.aload_n 0) 1 30 := ⟨by decide +kernel, rfl⟩
theorem iX6_forgetEnded_30 : am_at 62 30 (.getfield 36) 3 33 := ⟨by decide +kernel, rfl⟩
theorem iX6_forgetEnded_33 : am_at 62 33 (.iload_n 2) 1 34 := ⟨by decide +kernel, rfl⟩
theorem iX6_forgetEnded_34 : am_at 62 34 (.aaload) 1 35 := ⟨by decide +kernel, rfl⟩
theorem iX6_forgetEnded_35 : am_at 62 35 (.aastore) 1 36 := ⟨by decide +kernel, rfl⟩
theorem iX6_forgetEnded_36 : am_at 62 36 (.iinc 1 1) 3 39 := ⟨by decide +kernel, rfl⟩
theorem iX6_forgetEnded_39 : am_at 62 39 (.iinc 2 1) 3 42 := ⟨by decide +kernel, rfl⟩
theorem iX6_forgetEnded_42 : am_jp 62 42 (.goto (-38)) (-38) 4 45 := ⟨by decide +kernel, by decide, rfl⟩
theorem iX6_forgetEnded_45 : am_at 62 45 (.aload_n 0) 1 46 := ⟨by decide +kernel, rfl⟩
theorem iX6_forgetEnded_46 : am_at 62 46 (.iload_n 1) 1 47 := ⟨by decide +kernel, rfl⟩
theorem iX6_forgetEnded_47 : am_at 62 47 (.putfield 155) 3 50 := ⟨by decide +kernel, rfl⟩
theorem iX6_forgetEnded_50 : am_at 62 50 (.return_) 1 51 := ⟨by decide +kernel, rfl⟩
theorem iX6_answer_0 : am_at 63 0 (.aload_n 0) 1 1 := ⟨by decide +kernel, rfl⟩
theorem iX6_answer_1 : am_at 63 1 (.getfield 18) 3 4 := ⟨by decide +kernel, rfl⟩
theorem fX6_answer_18 : am_fld 63 18 6 1 2 := ⟨by decide, rfl, wd_135⟩
theorem iX6_answer_4 : am_at 63 4 (.iload_n 2) 1 5 := ⟨by decide +kernel, rfl⟩
theorem iX6_answer_5 : am_at 63 5 (.aaload) 1 6 := ⟨by decide +kernel, rfl⟩
theorem iX6_answer_6 : am_at 63 6 (.astore_n 3) 1 7 := ⟨by decide +kernel, rfl⟩
theorem iX6_answer_7 : am_at 63 7 (.aload_n 1) 1 8 := ⟨by decide +kernel, rfl⟩
theorem iX6_answer_8 : am_at 63 8 (.iconst 1) 1 9 := ⟨by decide +kernel, rfl⟩
theorem iX6_answer_9 : am_at 63 9 (.putfield 168) 3 12 := ⟨by decide +kernel, rfl⟩
theorem fX6_answer_168 : am_fld 63 168 2 6 0 := ⟨by decide, rfl, wd_560⟩
theorem iX6_answer_12 : am_at 63 12 (.aload_n 1) 1 13 := ⟨by decide +kernel, rfl⟩
theorem iX6_answer_13 : am_at 63 13 (.iload_n 2) 1 14 := ⟨by decide +kernel, rfl⟩
theorem iX6_answer_14 : am_at 63 14 (.putfield 171) 3 17 := ⟨by decide +kernel, rfl⟩
theorem fX6_answer_171 : am_fld 63 171 2 7 0 := ⟨by decide, rfl, wd_562⟩
theorem iX6_answer_17 : am_at 63 17 (.aload_n 1) 1 18 := ⟨by decide +kernel, rfl⟩
theorem iX6_answer_18 : am_at 63 18 (.aload_n 3) 1 19 := ⟨by decide +kernel, rfl⟩
theorem iX6_answer_19 : am_at 63 19 (.getfield 191) 3 22 := ⟨by decide +kernel, rfl⟩
theorem fX6_answer_191 : am_fld 63 191 3 0 2 := ⟨by decide, rfl, wd_84⟩
theorem iX6_answer_22 : am_at 63 22 (.aload_n 1) 1 23 := ⟨by decide +kernel, rfl⟩
theorem iX6_answer_23 : am_at 63 23 (.getfield 301) 3 26 := ⟨by decide +kernel, rfl⟩
theorem fX6_answer_301 : am_fld 63 301 2 3 0 := ⟨by decide, rfl, wd_554⟩
theorem iX6_answer_26 : am_at 63 26 (.aload_n 1) 1 27 := ⟨by decide +kernel, rfl⟩
theorem iX6_answer_27 : am_at 63 27 (.getfield 302) 3 30 := ⟨by decide +kernel, rfl⟩
theorem fX6_answer_302 : am_fld 63 302 2 4 0 := ⟨by decide, rfl, wd_556⟩
theorem iX6_answer_30 : am_at 63 30 (.aload_n 0) 1 31 := ⟨by decide +kernel, rfl⟩
theorem iX6_answer_31 : am_at 63 31 (.getfield 11) 3 34 := ⟨by decide +kernel, rfl⟩
theorem fX6_answer_11 : am_fld 63 11 6 0 2 := ⟨by decide, rfl, wd_134⟩
theorem iX6_answer_34 : am_at 63 34 (.arraylength) 1 35 := ⟨by decide +kernel, rfl⟩
theorem iX6_answer_35 : am_at 63 35 (.invokevirtual 194) 3 38 := ⟨by decide +kernel, rfl⟩
theorem cX6_answer_194 : am_sV 63 194 19 5 := ⟨wd_304, wd_305, wd_306, rfl, by decide⟩
theorem iX6_answer_38 : am_at 63 38 (.putfield 174) 3 41 := ⟨by decide +kernel, rfl⟩
theorem fX6_answer_174 : am_fld 63 174 2 9 1 := ⟨by decide, rfl, wd_565⟩
theorem iX6_answer_41 : am_at 63 41 (.aload_n 1) 1 42 := ⟨by decide +kernel, rfl⟩
theorem iX6_answer_42 : am_at 63 42 (.aload_n 3) 1 43 := ⟨by decide +kernel, rfl⟩
theorem iX6_answer_43 : am_at 63 43 (.getfield 124) 3 46 := ⟨by decide +kernel, rfl⟩
theorem fX6_answer_124 : am_fld 63 124 3 2 2 := ⟨by decide, rfl, wd_87⟩
theorem iX6_answer_46 : am_at 63 46 (.invokestatic 89) 3 49 := ⟨by decide +kernel, rfl⟩
theorem cX6_answer_89 : am_sS 63 89 49 := ⟨wd_320, wd_321, wd_1⟩
theorem iX6_answer_49 : am_at 63 49 (.putfield 177) 3 52 := ⟨by decide +kernel, rfl⟩
theorem fX6_answer_177 : am_fld 63 177 2 10 1 := ⟨by decide, rfl, wd_566⟩
theorem iX6_answer_52 : am_at 63 52 (.aload_n 1) 1 53 := ⟨by decide +kernel, rfl⟩
theorem iX6_answer_53 : am_at 63 53 (.aload_n 0) 1 54 := ⟨by decide +kernel, rfl⟩
theorem iX6_answer_54 : am_at 63 54 (.getfield 104) 3 57 := ⟨by decide +kernel, rfl⟩
theorem fX6_answer_104 : am_fld 63 104 6 9 0 := ⟨by decide, rfl, wd_143⟩
theorem iX6_answer_57 : am_at 63 57 (.putfield 180) 3 60 := ⟨by decide +kernel, rfl⟩
theorem fX6_answer_180 : am_fld 63 180 2 8 0 := ⟨by decide, rfl, wd_564⟩
theorem iX6_answer_60 : am_at 63 60 (.aload_n 0) 1 61 := ⟨by decide +kernel, rfl⟩
theorem iX6_answer_61 : am_at 63 61 (.dup) 1 62 := ⟨by decide +kernel, rfl⟩
theorem iX6_answer_62 : am_at 63 62 (.getfield 231) 3 65 := ⟨by decide +kernel, rfl⟩
theorem fX6_answer_231 : am_fld 63 231 6 7 0 := ⟨by decide, rfl, wd_141⟩
theorem iX6_answer_65 : am_at 63 65 (.iconst 1) 1 66 := ⟨by decide +kernel, rfl⟩
theorem iX6_answer_66 : am_at 63 66 (.iadd) 1 67 := ⟨by decide +kernel, rfl⟩
theorem iX6_answer_67 : am_at 63 67 (.putfield 231) 3 70 := ⟨by decide +kernel, rfl⟩
theorem iX6_answer_70 : am_at 63 70 (.aload_n 0) 1 71 := ⟨by decide +kernel, rfl⟩
theorem iX6_answer_71 : am_at 63 71 (.getfield 25) 3 74 := ⟨by decide +kernel, rfl⟩
theorem fX6_answer_25 : am_fld 63 25 6 2 2 := ⟨by decide, rfl, wd_136⟩
theorem iX6_answer_74 : am_at 63 74 (.aload_n 1) 1 75 := ⟨by decide +kernel, rfl⟩
theorem iX6_answer_75 : am_at 63 75 (.getfield 183) 3 78 := ⟨by decide +kernel, rfl⟩
theorem fX6_answer_183 : am_fld 63 183 2 0 0 := ⟨by decide, rfl, wd_548⟩
theorem iX6_answer_78 : am_at 63 78 (.aaload) 1 79 := ⟨by decide +kernel, rfl⟩
theorem iX6_answer_79 : am_at 63 79 (.aload_n 3) 1 80 := ⟨by decide +kernel, rfl⟩
theorem iX6_answer_80 : am_at 63 80 (.getfield 124) 3 83 := ⟨by decide +kernel, rfl⟩
theorem iX6_answer_83 : am_at 63 83 (.invokevirtual 305) 3 86 := ⟨by decide +kernel, rfl⟩
theorem cX6_answer_305 : am_sV 63 305 11 4 := ⟨wd_327, wd_328, wd_329, rfl, by decide⟩
theorem iX6_answer_86 : am_at 63 86 (.return_) 1 87 := ⟨by decide +kernel, rfl⟩
theorem iX6_fail_0 : am_at 64 0 (.aload_n 1) 1 1 := ⟨by decide +kernel, rfl⟩
theorem iX6_fail_1 : am_at 64 1 (.iconst 2) 1 2 := ⟨by decide +kernel, rfl⟩
theorem iX6_fail_2 : am_at 64 2 (.putfield 168) 3 5 := ⟨by decide +kernel, rfl⟩
theorem fX6_fail_168 : am_fld 64 168 2 6 0 := ⟨by decide, rfl, wd_560⟩
theorem iX6_fail_5 : am_at 64 5 (.aload_n 1) 1 6 := ⟨by decide +kernel, rfl⟩
theorem iX6_fail_6 : am_at 64 6 (.aload_n 0) 1 7 := ⟨by decide +kernel, rfl⟩
theorem iX6_fail_7 : am_at 64 7 (.getfield 104) 3 10 := ⟨by decide +kernel, rfl⟩
theorem fX6_fail_104 : am_fld 64 104 6 9 0 := ⟨by decide, rfl, wd_143⟩
theorem iX6_fail_10 : am_at 64 10 (.putfield 180) 3 13 := ⟨by decide +kernel, rfl⟩
theorem fX6_fail_180 : am_fld 64 180 2 8 0 := ⟨by decide, rfl, wd_564⟩
theorem iX6_fail_13 : am_at 64 13 (.aload_n 0) 1 14 := ⟨by decide +kernel, rfl⟩
theorem iX6_fail_14 : am_at 64 14 (.dup) 1 15 := ⟨by decide +kernel, rfl⟩
theorem iX6_fail_15 : am_at 64 15 (.getfield 234) 3 18 := ⟨by decide +kernel, rfl⟩
theorem fX6_fail_234 : am_fld 64 234 6 8 0 := ⟨by decide, rfl, wd_142⟩
theorem iX6_fail_18 : am_at 64 18 (.iconst 1) 1 19 := ⟨by decide +kernel, rfl⟩
theorem iX6_fail_19 : am_at 64 19 (.iadd) 1 20 := ⟨by decide +kernel, rfl⟩
theorem iX6_fail_20 : am_at 64 20 (.putfield 234) 3 23 := ⟨by decide +kernel, rfl⟩
theorem iX6_fail_23 : am_at 64 23 (.return_) 1 24 := ⟨by decide +kernel, rfl⟩
theorem iX7_init_0 : am_at 65 0 (.aload_n 0) 1 1 := ⟨by decide +kernel, rfl⟩
theorem iX7_init_1 : am_at 65 1 (.invokespecial 1) 3 4 := ⟨by decide +kernel, rfl⟩
theorem iX7_init_4 : am_at 65 4 (.aload_n 0) 1 5 := ⟨by decide +kernel, rfl⟩
theorem iX7_init_5 : am_at 65 5 (.iconst 3) 1 6 := ⟨by decide +kernel, rfl⟩
theorem iX7_init_6 : am_at 65 6 (.newarray .int) 2 8 := ⟨by decide +kernel, rfl⟩
theorem iX7_init_8 : am_at 65 8 (.putfield 7) 3 11 := ⟨by decide +kernel, rfl⟩
theorem fX7_init_7 : am_fld 65 7 7 4 2 := ⟨by decide, rfl, wd_670⟩
theorem iX7_init_11 : am_at 65 11 (.aload_n 0) 1 12 := ⟨by decide +kernel, rfl⟩
theorem iX7_init_12 : am_at 65 12 (.iconst 3) 1 13 := ⟨by decide +kernel, rfl⟩
theorem iX7_init_13 : am_at 65 13 (.newarray .int) 2 15 := ⟨by decide +kernel, rfl⟩
theorem iX7_init_15 : am_at 65 15 (.putfield 13) 3 18 := ⟨by decide +kernel, rfl⟩
theorem fX7_init_13 : am_fld 65 13 7 5 2 := ⟨by decide, rfl, wd_671⟩
theorem iX7_init_18 : am_at 65 18 (.aload_n 0) 1 19 := ⟨by decide +kernel, rfl⟩
theorem iX7_init_19 : am_at 65 19 (.sipush 1203) 3 22 := ⟨by decide +kernel, rfl⟩
theorem iX7_init_22 : am_at 65 22 (.newarray .int) 2 24 := ⟨by decide +kernel, rfl⟩
theorem iX7_init_24 : am_at 65 24 (.putfield 16) 3 27 := ⟨by decide +kernel, rfl⟩
theorem fX7_init_16 : am_fld 65 16 7 6 2 := ⟨by decide, rfl, wd_672⟩
theorem iX7_init_27 : am_at 65 27 (.aload_n 0) 1 28 := ⟨by decide +kernel, rfl⟩
theorem iX7_init_28 : am_at 65 28 (.sipush 1203) 3 31 := ⟨by decide +kernel, rfl⟩
theorem iX7_init_31 : am_at 65 31 (.newarray .int) 2 33 := ⟨by decide +kernel, rfl⟩
theorem iX7_init_33 : am_at 65 33 (.putfield 19) 3 36 := ⟨by decide +kernel, rfl⟩
theorem fX7_init_19 : am_fld 65 19 7 7 2 := ⟨by decide, rfl, wd_673⟩
theorem iX7_init_36 : am_at 65 36 (.aload_n 0) 1 37 := ⟨by decide +kernel, rfl⟩
theorem iX7_init_37 : am_at 65 37 (.sipush 1203) 3 40 := ⟨by decide +kernel, rfl⟩
theorem iX7_init_40 : am_at 65 40 (.newarray .int) 2 42 := ⟨by decide +kernel, rfl⟩
theorem iX7_init_42 : am_at 65 42 (.putfield 22) 3 45 := ⟨by decide +kernel, rfl⟩
theorem fX7_init_22 : am_fld 65 22 7 8 2 := ⟨by decide, rfl, wd_674⟩
theorem iX7_init_45 : am_at 65 45 (.aload_n 0) 1 46 := ⟨by decide +kernel, rfl⟩
theorem iX7_init_46 : am_at 65 46 (.sipush 1203) 3 49 := ⟨by decide +kernel, rfl⟩
theorem iX7_init_49 : am_at 65 49 (.newarray .int) 2 51 := ⟨by decide +kernel, rfl⟩
theorem iX7_init_51 : am_at 65 51 (.putfield 25) 3 54 := ⟨by decide +kernel, rfl⟩
theorem fX7_init_25 : am_fld 65 25 7 9 2 := ⟨by decide, rfl, wd_675⟩
theorem iX7_init_54 : am_at 65 54 (.aload_n 0) 1 55 := ⟨by decide +kernel, rfl⟩
theorem iX7_init_55 : am_at 65 55 (.sipush 3609) 3 58 := ⟨by decide +kernel, rfl⟩
theorem iX7_init_58 : am_at 65 58 (.newarray .int) 2 60 := ⟨by decide +kernel, rfl⟩
theorem iX7_init_60 : am_at 65 60 (.putfield 28) 3 63 := ⟨by decide +kernel, rfl⟩
theorem fX7_init_28 : am_fld 65 28 7 10 2 := ⟨by decide, rfl, wd_676⟩
theorem iX7_init_63 : am_at 65 63 (.aload_n 0) 1 64 := ⟨by decide +kernel, rfl⟩
theorem iX7_init_64 : am_at 65 64 (.sipush 240) 3 67 := ⟨by decide +kernel, rfl⟩
theorem iX7_init_67 : am_at 65 67 (.newarray .int) 2 69 := ⟨by decide +kernel, rfl⟩
theorem iX7_init_69 : am_at 65 69 (.putfield 31) 3 72 := ⟨by decide +kernel, rfl⟩
theorem fX7_init_31 : am_fld 65 31 7 11 2 := ⟨by decide, rfl, wd_677⟩
theorem iX7_init_72 : am_at 65 72 (.aload_n 0) 1 73 := ⟨by decide +kernel, rfl⟩
theorem iX7_init_73 : am_at 65 73 (.sipush 240) 3 76 := ⟨by decide +kernel, rfl⟩
theorem iX7_init_76 : am_at 65 76 (.newarray .int) 2 78 := ⟨by decide +kernel, rfl⟩
theorem iX7_init_78 : am_at 65 78 (.putfield 34) 3 81 := ⟨by decide +kernel, rfl⟩
theorem fX7_init_34 : am_fld 65 34 7 12 2 := ⟨by decide, rfl, wd_678⟩
theorem iX7_init_81 : am_at 65 81 (.aload_n 0) 1 82 := ⟨by decide +kernel, rfl⟩
theorem iX7_init_82 : am_at 65 82 (.sipush 240) 3 85 := ⟨by decide +kernel, rfl⟩
theorem iX7_init_85 : am_at 65 85 (.newarray .int) 2 87 := ⟨by decide +kernel, rfl⟩
theorem iX7_init_87 : am_at 65 87 (.putfield 37) 3 90 := ⟨by decide +kernel, rfl⟩
theorem fX7_init_37 : am_fld 65 37 7 13 2 := ⟨by decide, rfl, wd_679⟩
theorem iX7_init_90 : am_at 65 90 (.aload_n 0) 1 91 := ⟨by decide +kernel, rfl⟩
theorem iX7_init_91 : am_at 65 91 (.sipush 240) 3 94 := ⟨by decide +kernel, rfl⟩
theorem iX7_init_94 : am_at 65 94 (.newarray .int) 2 96 := ⟨by decide +kernel, rfl⟩
theorem iX7_init_96 : am_at 65 96 (.putfield 40) 3 99 := ⟨by decide +kernel, rfl⟩
theorem fX7_init_40 : am_fld 65 40 7 14 2 := ⟨by decide, rfl, wd_680⟩
theorem iX7_init_99 : am_at 65 99 (.aload_n 0) 1 100 := ⟨by decide +kernel, rfl⟩
theorem iX7_init_100 : am_at 65 100 (.sipush 2400) 3 103 := ⟨by decide +kernel, rfl⟩
theorem iX7_init_103 : am_at 65 103 (.newarray .int) 2 105 := ⟨by decide +kernel, rfl⟩
theorem iX7_init_105 : am_at 65 105 (.putfield 43) 3 108 := ⟨by decide +kernel, rfl⟩
theorem fX7_init_43 : am_fld 65 43 7 15 2 := ⟨by decide, rfl, wd_681⟩
theorem iX7_init_108 : am_at 65 108 (.aload_n 0) 1 109 := ⟨by decide +kernel, rfl⟩
theorem iX7_init_109 : am_at 65 109 (.bipush 80) 2 111 := ⟨by decide +kernel, rfl⟩
theorem iX7_init_111 : am_at 65 111 (.newarray .long) 2 113 := ⟨by decide +kernel, rfl⟩
theorem iX7_init_113 : am_at 65 113 (.putfield 46) 3 116 := ⟨by decide +kernel, rfl⟩
theorem fX7_init_46 : am_fld 65 46 7 16 2 := ⟨by decide, rfl, wd_682⟩
theorem iX7_init_116 : am_at 65 116 (.aload_n 0) 1 117 := ⟨by decide +kernel, rfl⟩
theorem iX7_init_117 : am_at 65 117 (.bipush 80) 2 119 := ⟨by decide +kernel, rfl⟩
theorem iX7_init_119 : am_at 65 119 (.newarray .int) 2 121 := ⟨by decide +kernel, rfl⟩
theorem iX7_init_121 : am_at 65 121 (.putfield 50) 3 124 := ⟨by decide +kernel, rfl⟩
theorem fX7_init_50 : am_fld 65 50 7 17 2 := ⟨by decide, rfl, wd_683⟩
theorem iX7_init_124 : am_at 65 124 (.aload_n 0) 1 125 := ⟨by decide +kernel, rfl⟩
theorem iX7_init_125 : am_at 65 125 (.bipush 24) 2 127 := ⟨by decide +kernel, rfl⟩
theorem iX7_init_127 : am_at 65 127 (.newarray .int) 2 129 := ⟨by decide +kernel, rfl⟩
theorem iX7_init_129 : am_at 65 129 (.putfield 53) 3 132 := ⟨by decide +kernel, rfl⟩
theorem fX7_init_53 : am_fld 65 53 7 18 2 := ⟨by decide, rfl, wd_684⟩
theorem iX7_init_132 : am_at 65 132 (.aload_n 0) 1 133 := ⟨by decide +kernel, rfl⟩
theorem iX7_init_133 : am_at 65 133 (.iconst 4) 1 134 := ⟨by decide +kernel, rfl⟩
theorem iX7_init_134 : am_at 65 134 (.newarray .int) 2 136 := ⟨by decide +kernel, rfl⟩
theorem iX7_init_136 : am_at 65 136 (.putfield 56) 3 139 := ⟨by decide +kernel, rfl⟩
theorem fX7_init_56 : am_fld 65 56 7 19 2 := ⟨by decide, rfl, wd_685⟩
theorem iX7_init_139 : am_at 65 139 (.aload_n 0) 1 140 := ⟨by decide +kernel, rfl⟩
theorem iX7_init_140 : am_at 65 140 (.iconst 4) 1 141 := ⟨by decide +kernel, rfl⟩
theorem iX7_init_141 : am_at 65 141 (.newarray .int) 2 143 := ⟨by decide +kernel, rfl⟩
theorem iX7_init_143 : am_at 65 143 (.putfield 59) 3 146 := ⟨by decide +kernel, rfl⟩
theorem fX7_init_59 : am_fld 65 59 7 20 2 := ⟨by decide, rfl, wd_686⟩
theorem iX7_init_146 : am_at 65 146 (.aload_n 0) 1 147 := ⟨by decide +kernel, rfl⟩
theorem iX7_init_147 : am_at 65 147 (.iconst 4) 1 148 := ⟨by decide +kernel, rfl⟩
theorem iX7_init_148 : am_at 65 148 (.newarray .boolean) 2 150 := ⟨by decide +kernel, rfl⟩
theorem iX7_init_150 : am_at 65 150 (.putfield 62) 3 153 := ⟨by decide +kernel, rfl⟩
theorem fX7_init_62 : am_fld 65 62 7 21 2 := ⟨by decide, rfl, wd_687⟩
theorem iX7_init_153 : am_at 65 153 (.aload_n 0) 1 154 := ⟨by decide +kernel, rfl⟩
theorem iX7_init_154 : am_at 65 154 (.bipush 8) 2 156 := ⟨by decide +kernel, rfl⟩
theorem iX7_init_156 : am_at 65 156 (.newarray .int) 2 158 := ⟨by decide +kernel, rfl⟩
theorem iX7_init_158 : am_at 65 158 (.putfield 66) 3 161 := ⟨by decide +kernel, rfl⟩
theorem fX7_init_66 : am_fld 65 66 7 22 2 := ⟨by decide, rfl, wd_688⟩
theorem iX7_init_161 : am_at 65 161 (.aload_n 0) 1 162 := ⟨by decide +kernel, rfl⟩
theorem iX7_init_162 : am_at 65 162 (.bipush 8) 2 164 := ⟨by decide +kernel, rfl⟩
theorem iX7_init_164 : am_at 65 164 (.newarray .int) 2 166 := ⟨by decide +kernel, rfl⟩
theorem iX7_init_166 : am_at 65 166 (.putfield 69) 3 169 := ⟨by decide +kernel, rfl⟩
theorem fX7_init_69 : am_fld 65 69 7 23 2 := ⟨by decide, rfl, wd_689⟩
theorem iX7_init_169 : am_at 65 169 (.aload_n 0) 1 170 := ⟨by decide +kernel, rfl⟩
theorem iX7_init_170 : am_at 65 170 (.bipush 24) 2 172 := ⟨by decide +kernel, rfl⟩
theorem iX7_init_172 : am_at 65 172 (.newarray .int) 2 174 := ⟨by decide +kernel, rfl⟩
theorem iX7_init_174 : am_at 65 174 (.putfield 72) 3 177 := ⟨by decide +kernel, rfl⟩
theorem fX7_init_72 : am_fld 65 72 7 24 2 := ⟨by decide, rfl, wd_690⟩
theorem iX7_init_177 : am_at 65 177 (.aload_n 0) 1 178 := ⟨by decide +kernel, rfl⟩
theorem iX7_init_178 : am_at 65 178 (.bipush 24) 2 180 := ⟨by decide +kernel, rfl⟩
theorem iX7_init_180 : am_at 65 180 (.newarray .int) 2 182 := ⟨by decide +kernel, rfl⟩
theorem iX7_init_182 : am_at 65 182 (.putfield 75) 3 185 := ⟨by decide +kernel, rfl⟩
theorem fX7_init_75 : am_fld 65 75 7 25 2 := ⟨by decide, rfl, wd_691⟩
theorem iX7_init_185 : am_at 65 185 (.aload_n 0) 1 186 := ⟨by decide +kernel, rfl⟩
theorem iX7_init_186 : am_at 65 186 (.sipush 500) 3 189 := ⟨by decide +kernel, rfl⟩
theorem iX7_init_189 : am_at 65 189 (.newarray .int) 2 191 := ⟨by decide +kernel, rfl⟩
theorem iX7_init_191 : am_at 65 191 (.putfield 78) 3 194 := ⟨by decide +kernel, rfl⟩
theorem fX7_init_78 : am_fld 65 78 7 27 2 := ⟨by decide, rfl, wd_693⟩
theorem iX7_init_194 : am_at 65 194 (.aload_n 0) 1 195 := ⟨by decide +kernel, rfl⟩
theorem iX7_init_195 : am_at 65 195 (.sipush 500) 3 198 := ⟨by decide +kernel, rfl⟩
theorem iX7_init_198 : am_at 65 198 (.newarray .int) 2 200 := ⟨by decide +kernel, rfl⟩
theorem iX7_init_200 : am_at 65 200 (.putfield 81) 3 203 := ⟨by decide +kernel, rfl⟩
theorem fX7_init_81 : am_fld 65 81 7 28 2 := ⟨by decide, rfl, wd_694⟩
theorem iX7_init_203 : am_at 65 203 (.aload_n 0) 1 204 := ⟨by decide +kernel, rfl⟩
theorem iX7_init_204 : am_at 65 204 (.sipush 1500) 3 207 := ⟨by decide +kernel, rfl⟩
theorem iX7_init_207 : am_at 65 207 (.newarray .int) 2 209 := ⟨by decide +kernel, rfl⟩
theorem iX7_init_209 : am_at 65 209 (.putfield 84) 3 212 := ⟨by decide +kernel, rfl⟩
theorem fX7_init_84 : am_fld 65 84 7 29 2 := ⟨by decide, rfl, wd_695⟩
theorem iX7_init_212 : am_at 65 212 (.aload_n 0) 1 213 := ⟨by decide +kernel, rfl⟩
theorem iX7_init_213 : am_at 65 213 (.sipush 500) 3 216 := ⟨by decide +kernel, rfl⟩
theorem iX7_init_216 : am_at 65 216 (.newarray .int) 2 218 := ⟨by decide +kernel, rfl⟩
theorem iX7_init_218 : am_at 65 218 (.putfield 87) 3 221 := ⟨by decide +kernel, rfl⟩
theorem fX7_init_87 : am_fld 65 87 7 30 2 := ⟨by decide, rfl, wd_696⟩
theorem iX7_init_221 : am_at 65 221 (.aload_n 0) 1 222 := ⟨by decide +kernel, rfl⟩
theorem iX7_init_222 : am_at 65 222 (.sipush 500) 3 225 := ⟨by decide +kernel, rfl⟩
theorem iX7_init_225 : am_at 65 225 (.newarray .int) 2 227 := ⟨by decide +kernel, rfl⟩
theorem iX7_init_227 : am_at 65 227 (.putfield 90) 3 230 := ⟨by decide +kernel, rfl⟩
theorem fX7_init_90 : am_fld 65 90 7 31 2 := ⟨by decide, rfl, wd_697⟩
theorem iX7_init_230 : am_at 65 230 (.aload_n 0) 1 231 := ⟨by decide +kernel, rfl⟩
theorem iX7_init_231 : am_at 65 231 (.sipush 500) 3 234 := ⟨by decide +kernel, rfl⟩
theorem iX7_init_234 : am_at 65 234 (.newarray .int) 2 236 := ⟨by decide +kernel, rfl⟩
theorem iX7_init_236 : am_at 65 236 (.putfield 93) 3 239 := ⟨by decide +kernel, rfl⟩
theorem fX7_init_93 : am_fld 65 93 7 32 2 := ⟨by decide, rfl, wd_698⟩
theorem iX7_init_239 : am_at 65 239 (.aload_n 0) 1 240 := ⟨by decide +kernel, rfl⟩
theorem iX7_init_240 : am_at 65 240 (.sipush 500) 3 243 := ⟨by decide +kernel, rfl⟩
theorem iX7_init_243 : am_at 65 243 (.newarray .int) 2 245 := ⟨by decide +kernel, rfl⟩
theorem iX7_init_245 : am_at 65 245 (.putfield 96) 3 248 := ⟨by decide +kernel, rfl⟩
theorem fX7_init_96 : am_fld 65 96 7 33 2 := ⟨by decide, rfl, wd_699⟩
theorem iX7_init_248 : am_at 65 248 (.aload_n 0) 1 249 := ⟨by decide +kernel, rfl⟩
theorem iX7_init_249 : am_at 65 249 (.sipush 500) 3 252 := ⟨by decide +kernel, rfl⟩
theorem iX7_init_252 : am_at 65 252 (.newarray .int) 2 254 := ⟨by decide +kernel, rfl⟩
theorem iX7_init_254 : am_at 65 254 (.putfield 99) 3 257 := ⟨by decide +kernel, rfl⟩
theorem fX7_init_99 : am_fld 65 99 7 34 2 := ⟨by decide, rfl, wd_700⟩
theorem iX7_init_257 : am_at 65 257 (.aload_n 0) 1 258 := ⟨by decide +kernel, rfl⟩
theorem iX7_init_258 : am_at 65 258 (.sipush 500) 3 261 := ⟨by decide +kernel, rfl⟩
theorem iX7_init_261 : am_at 65 261 (.newarray .int) 2 263 := ⟨by decide +kernel, rfl⟩
theorem iX7_init_263 : am_at 65 263 (.putfield 102) 3 266 := ⟨by decide +kernel, rfl⟩
theorem fX7_init_102 : am_fld 65 102 7 35 2 := ⟨by decide, rfl, wd_701⟩
theorem iX7_init_266 : am_at 65 266 (.aload_n 0) 1 267 := ⟨by decide +kernel, rfl⟩
theorem iX7_init_267 : am_at 65 267 (.sipush 500) 3 270 := ⟨by decide +kernel, rfl⟩
theorem iX7_init_270 : am_at 65 270 (.newarray .long) 2 272 := ⟨by decide +kernel, rfl⟩
theorem iX7_init_272 : am_at 65 272 (.putfield 105) 3 275 := ⟨by decide +kernel, rfl⟩
theorem fX7_init_105 : am_fld 65 105 7 36 2 := ⟨by decide, rfl, wd_702⟩
theorem iX7_init_275 : am_at 65 275 (.aload_n 0) 1 276 := ⟨by decide +kernel, rfl⟩
theorem iX7_init_276 : am_at 65 276 (.sipush 500) 3 279 := ⟨by decide +kernel, rfl⟩
theorem iX7_init_279 : am_at 65 279 (.newarray .long) 2 281 := ⟨by decide +kernel, rfl⟩
theorem iX7_init_281 : am_at 65 281 (.putfield 108) 3 284 := ⟨by decide +kernel, rfl⟩
theorem fX7_init_108 : am_fld 65 108 7 37 2 := ⟨by decide, rfl, wd_703⟩
theorem iX7_init_284 : am_at 65 284 (.aload_n 0) 1 285 := ⟨by decide +kernel, rfl⟩
theorem iX7_init_285 : am_at 65 285 (.sipush 500) 3 288 := ⟨by decide +kernel, rfl⟩
theorem iX7_init_288 : am_at 65 288 (.newarray .int) 2 290 := ⟨by decide +kernel, rfl⟩
theorem iX7_init_290 : am_at 65 290 (.putfield 111) 3 293 := ⟨by decide +kernel, rfl⟩
theorem fX7_init_111 : am_fld 65 111 7 38 2 := ⟨by decide, rfl, wd_704⟩
theorem iX7_init_293 : am_at 65 293 (.aload_n 0) 1 294 := ⟨by decide +kernel, rfl⟩
theorem iX7_init_294 : am_at 65 294 (.iload_n 1) 1 295 := ⟨by decide +kernel, rfl⟩
theorem iX7_init_295 : am_at 65 295 (.iconst 1) 1 296 := ⟨by decide +kernel, rfl⟩
theorem iX7_init_296 : am_jp 65 296 (.if_icmp .lt 12) 12 308 299 := ⟨by decide +kernel, by decide, rfl⟩
theorem iX7_init_299 : am_at 65 299 (.iload_n 1) 1 300 := ⟨by decide +kernel, rfl⟩
theorem iX7_init_300 : am_at 65 300 (.iconst 3) 1 301 := ⟨by decide +kernel, rfl⟩
theorem iX7_init_301 : am_jp 65 301 (.if_icmp .gt 7) 7 308 304 := ⟨by decide +kernel, by decide, rfl⟩
theorem iX7_init_304 : am_at 65 304 (.iload_n 1) 1 305 := ⟨by decide +kernel, rfl⟩
theorem iX7_init_305 : am_jp 65 305 (.goto 4) 4 309 308 := ⟨by decide +kernel, by decide, rfl⟩
theorem iX7_init_308 : am_at 65 308 (.iconst 2) 1 309 := ⟨by decide +kernel, rfl⟩
theorem iX7_init_309 : am_at 65 309 (.putfield 114) 3 312 := ⟨by decide +kernel, rfl⟩
theorem fX7_init_114 : am_fld 65 114 7 0 0 := ⟨by decide, rfl, wd_666⟩
theorem iX7_init_312 : am_at 65 312 (.aload_n 0) 1 313 := ⟨by decide +kernel, rfl⟩
theorem iX7_init_313 : am_at 65 313 (.iload_n 2) 1 314 := ⟨by decide +kernel, rfl⟩
theorem iX7_init_314 : am_at 65 314 (.iconst 1) 1 315 := ⟨by decide +kernel, rfl⟩
theorem iX7_init_315 : am_jp 65 315 (.if_icmp .lt 12) 12 327 318 := ⟨by decide +kernel, by decide, rfl⟩
theorem iX7_init_318 : am_at 65 318 (.iload_n 2) 1 319 := ⟨by decide +kernel, rfl⟩
theorem iX7_init_319 : am_at 65 319 (.iconst 4) 1 320 := ⟨by decide +kernel, rfl⟩
theorem iX7_init_320 : am_jp 65 320 (.if_icmp .gt 7) 7 327 323 := ⟨by decide +kernel, by decide, rfl⟩
theorem iX7_init_323 : am_at 65 323 (.iload_n 2) 1 324 := ⟨by decide +kernel, rfl⟩
theorem iX7_init_324 : am_jp 65 324 (.goto 4) 4 328 327 := ⟨by decide +kernel, by decide, rfl⟩
theorem iX7_init_327 : am_at 65 327 (.iconst 2) 1 328 := ⟨by decide +kernel, rfl⟩
theorem iX7_init_328 : am_at 65 328 (.putfield 118) 3 331 := ⟨by decide +kernel, rfl⟩
theorem fX7_init_118 : am_fld 65 118 7 1 0 := ⟨by decide, rfl, wd_667⟩
theorem iX7_init_331 : am_at 65 331 (.iconst 0) 1 332 := ⟨by decide +kernel, rfl⟩
theorem iX7_init_332 : am_at 65 332 (.istore_n 3) 1 333 := ⟨by decide +kernel, rfl⟩
theorem iX7_init_333 : am_at 65 333 (.iload_n 3) 1 334 := ⟨by decide +kernel, rfl⟩
theorem iX7_init_334 : am_at 65 334 (.aload_n 0) 1 335 := ⟨by decide +kernel, rfl⟩
theorem iX7_init_335 : am_at 65 335 (.getfield 118) 3 338 := ⟨by decide +kernel, rfl⟩
theorem iX7_init_338 : am_jp 65 338 (.if_icmp .ge 16) 16 354 341 := ⟨by decide +kernel, by decide, rfl⟩
theorem iX7_init_341 : am_at 65 341 (.aload_n 0) 1 342 := ⟨by decide +kernel, rfl⟩
theorem iX7_init_342 : am_at 65 342 (.getfield 62) 3 345 := ⟨by decide +kernel, rfl⟩
theorem iX7_init_345 : am_at 65 345 (.iload_n 3) 1 346 := ⟨by decide +kernel, rfl⟩
theorem iX7_init_346 : am_at 65 346 (.iconst 1) 1 347 := ⟨by decide +kernel, rfl⟩
theorem iX7_init_347 : am_at 65 347 (.bastore) 1 348 := ⟨by decide +kernel, rfl⟩
theorem iX7_init_348 : am_at 65 348 (.iinc 3 1) 3 351 := ⟨by decide +kernel, rfl⟩
theorem iX7_init_351 : am_jp 65 351 (.goto (-18)) (-18) 333 354 := ⟨by decide +kernel, by decide, rfl⟩
theorem iX7_init_354 : am_at 65 354 (.iconst 0) 1 355 := ⟨by decide +kernel, rfl⟩
theorem iX7_init_355 : am_at 65 355 (.istore_n 3) 1 356 := ⟨by decide +kernel, rfl⟩
theorem iX7_init_356 : am_at 65 356 (.iload_n 3) 1 357 := ⟨by decide +kernel, rfl⟩
theorem iX7_init_357 : am_at 65 357 (.sipush 240) 3 360 := ⟨by decide +kernel, rfl⟩
theorem iX7_init_360 : am_jp 65 360 (.if_icmp .ge 16) 16 376 363 := ⟨by decide +kernel, by decide, rfl⟩
theorem iX7_init_363 : am_at 65 363 (.aload_n 0) 1 364 := ⟨by decide +kernel, rfl⟩
theorem iX7_init_364 : am_at 65 364 (.getfield 40) 3 367 := ⟨by decide +kernel, rfl⟩
theorem iX7_init_367 : am_at 65 367 (.iload_n 3) 1 368 := ⟨by decide +kernel, rfl⟩
theorem iX7_init_368 : am_at 65 368 (.iconst 1) 1 369 := ⟨by decide +kernel, rfl⟩
theorem iX7_init_369 : am_at 65 369 (.iastore) 1 370 := ⟨by decide +kernel, rfl⟩
theorem iX7_init_370 : am_at 65 370 (.iinc 3 1) 3 373 := ⟨by decide +kernel, rfl⟩
theorem iX7_init_373 : am_jp 65 373 (.goto (-17)) (-17) 356 376 := ⟨by decide +kernel, by decide, rfl⟩
theorem iX7_init_376 : am_at 65 376 (.return_) 1 377 := ⟨by decide +kernel, rfl⟩
theorem iX7_lesser_0 : am_at 66 0 (.iload_n 0) 1 1 := ⟨by decide +kernel, rfl⟩
theorem iX7_lesser_1 : am_at 66 1 (.iload_n 1) 1 2 := ⟨by decide +kernel, rfl⟩
theorem iX7_lesser_2 : am_jp 66 2 (.if_icmp .ge 7) 7 9 5 := ⟨by decide +kernel, by decide, rfl⟩
theorem iX7_lesser_5 : am_at 66 5 (.iload_n 0) 1 6 := ⟨by decide +kernel, rfl⟩
theorem iX7_lesser_6 : am_jp 66 6 (.goto 4) 4 10 9 := ⟨by decide +kernel, by decide, rfl⟩
theorem iX7_lesser_9 : am_at 66 9 (.iload_n 1) 1 10 := ⟨by decide +kernel, rfl⟩
theorem iX7_lesser_10 : am_at 66 10 (.ireturn) 1 11 := ⟨by decide +kernel, rfl⟩
theorem iX7_greater_0 : am_at 67 0 (.iload_n 0) 1 1 := ⟨by decide +kernel, rfl⟩
theorem iX7_greater_1 : am_at 67 1 (.iload_n 1) 1 2 := ⟨by decide +kernel, rfl⟩
theorem iX7_greater_2 : am_jp 67 2 (.if_icmp .le 7) 7 9 5 := ⟨by decide +kernel, by decide, rfl⟩
theorem iX7_greater_5 : am_at 67 5 (.iload_n 0) 1 6 := ⟨by decide +kernel, rfl⟩
theorem iX7_greater_6 : am_jp 67 6 (.goto 4) 4 10 9 := ⟨by decide +kernel, by decide, rfl⟩
theorem iX7_greater_9 : am_at 67 9 (.iload_n 1) 1 10 := ⟨by decide +kernel, rfl⟩
theorem iX7_greater_10 : am_at 67 10 (.ireturn) 1 11 := ⟨by decide +kernel, rfl⟩
theorem iX7_thrown_0 : am_at 68 0 (.aload_n 0) 1 1 := ⟨by decide +kernel, rfl⟩
theorem iX7_thrown_1 : am_at 68 1 (.getfield 121) 3 4 := ⟨by decide +kernel, rfl⟩
theorem fX7_thrown_121 : am_fld 68 121 7 2 0 := ⟨by decide, rfl, wd_668⟩
theorem iX7_thrown_4 : am_at 68 4 (.ireturn) 1 5 := ⟨by decide +kernel, rfl⟩
theorem iX7_in_0 : am_at 69 0 (.lload_n 0) 1 1 := ⟨by decide +kernel, rfl⟩
theorem iX7_in_1 : am_at 69 1 (.lload_n 2) 1 2 := ⟨by decide +kernel, rfl⟩
theorem iX7_in_2 : am_at 69 2 (.lcmp) 1 3 := ⟨by decide +kernel, rfl⟩
theorem iX7_in_3 : am_jp 69 3 (.ifCond .lt 14) 14 17 6 := ⟨by decide +kernel, by decide, rfl⟩
theorem iX7_in_6 : am_at 69 6 (.lload_n 0) 1 7 := ⟨by decide +kernel, rfl⟩
theorem iX7_in_7 : am_at 69 7 (.lload 4) 2 9 := ⟨by decide +kernel, rfl⟩
theorem iX7_in_9 : am_at 69 9 (.lcmp) 1 10 := ⟨by decide +kernel, rfl⟩
theorem iX7_in_10 : am_jp 69 10 (.ifCond .gt 7) 7 17 13 := ⟨by decide +kernel, by decide, rfl⟩
theorem iX7_in_13 : am_at 69 13 (.iconst 1) 1 14 := ⟨by decide +kernel, rfl⟩
theorem iX7_in_14 : am_jp 69 14 (.goto 4) 4 18 17 := ⟨by decide +kernel, by decide, rfl⟩
theorem iX7_in_17 : am_at 69 17 (.iconst 0) 1 18 := ⟨by decide +kernel, rfl⟩
theorem iX7_in_18 : am_at 69 18 (.ireturn) 1 19 := ⟨by decide +kernel, rfl⟩
theorem iX7_check_0 : am_at 70 0 (.lload_n 0) 1 1 := ⟨by decide +kernel, rfl⟩
theorem iX7_check_1 : am_at 70 1 (.ldc2_w 124) 3 4 := ⟨by decide +kernel, rfl⟩
theorem iX7_check_4 : am_at 70 4 (.lmul) 1 5 := ⟨by decide +kernel, rfl⟩
theorem iX7_check_5 : am_at 70 5 (.bipush 44) 2 7 := ⟨by decide +kernel, rfl⟩
theorem iX7_check_7 : am_at 70 7 (.lushr) 1 8 := ⟨by decide +kernel, rfl⟩
theorem iX7_check_8 : am_at 70 8 (.lreturn) 1 9 := ⟨by decide +kernel, rfl⟩
theorem iX7_tokenOf_0 : am_at 71 0 (.iload_n 0) 1 1 := ⟨by decide +kernel, rfl⟩
theorem iX7_tokenOf_1 : am_at 71 1 (.i2l) 1 2 := ⟨by decide +kernel, rfl⟩
theorem iX7_tokenOf_2 : am_at 71 2 (.ldc2_w 126) 3 5 := ⟨by decide +kernel, rfl⟩
theorem iX7_tokenOf_5 : am_at 71 5 (.iload_n 1) 1 6 := ⟨by decide +kernel, rfl⟩
theorem iX7_tokenOf_6 : am_at 71 6 (.i2l) 1 7 := ⟨by decide +kernel, rfl⟩
theorem iX7_tokenOf_7 : am_at 71 7 (.lmul) 1 8 := ⟨by decide +kernel, rfl⟩
theorem iX7_tokenOf_8 : am_at 71 8 (.ladd) 1 9 := ⟨by decide +kernel, rfl⟩
theorem iX7_tokenOf_9 : am_at 71 9 (.ldc2_w 128) 3 12 := ⟨by decide +kernel, rfl⟩
theorem iX7_tokenOf_12 : am_at 71 12 (.iload_n 2) 1 13 := ⟨by decide +kernel, rfl⟩
theorem iX7_tokenOf_13 : am_at 71 13 (.i2l) 1 14 := ⟨by decide +kernel, rfl⟩
theorem iX7_tokenOf_14 : am_at 71 14 (.lmul) 1 15 := ⟨by decide +kernel, rfl⟩
theorem iX7_tokenOf_15 : am_at 71 15 (.ladd) 1 16 := ⟨by decide +kernel, rfl⟩
theorem iX7_tokenOf_16 : am_at 71 16 (.lstore_n 3) 1 17 := ⟨by decide +kernel, rfl⟩
theorem iX7_tokenOf_17 : am_at 71 17 (.lload_n 3) 1 18 := ⟨by decide +kernel, rfl⟩
theorem iX7_tokenOf_18 : am_at 71 18 (.ldc2_w 130) 3 21 := ⟨by decide +kernel, rfl⟩
theorem iX7_tokenOf_21 : am_at 71 21 (.lmul) 1 22 := ⟨by decide +kernel, rfl⟩
theorem iX7_tokenOf_22 : am_at 71 22 (.lload_n 3) 1 23 := ⟨by decide +kernel, rfl⟩
theorem iX7_tokenOf_23 : am_at 71 23 (.invokestatic 132) 3 26 := ⟨by decide +kernel, rfl⟩
theorem cX7_tokenOf_132 : am_sS 71 132 70 := ⟨wd_831, wd_832, wd_6⟩
theorem iX7_tokenOf_26 : am_at 71 26 (.ladd) 1 27 := ⟨by decide +kernel, rfl⟩
theorem iX7_tokenOf_27 : am_at 71 27 (.lreturn) 1 28 := ⟨by decide +kernel, rfl⟩
theorem iX7_position_0 : am_at 72 0 (.lload_n 0) 1 1 := ⟨by decide +kernel, rfl⟩
theorem iX7_position_1 : am_at 72 1 (.bipush 20) 2 3 := ⟨by decide +kernel, rfl⟩
theorem iX7_position_3 : am_at 72 3 (.bipush 9) 2 5 := ⟨by decide +kernel, rfl⟩
theorem iX7_position_5 : am_at 72 5 (.iload_n 2) 1 6 := ⟨by decide +kernel, rfl⟩
theorem iX7_position_6 : am_at 72 6 (.imul) 1 7 := ⟨by decide +kernel, rfl⟩
theorem iX7_position_7 : am_at 72 7 (.iadd) 1 8 := ⟨by decide +kernel, rfl⟩
theorem iX7_position_8 : am_at 72 8 (.lshr) 1 9 := ⟨by decide +kernel, rfl⟩
theorem iX7_position_9 : am_at 72 9 (.ldc2_w 136) 3 12 := ⟨by decide +kernel, rfl⟩
theorem iX7_position_12 : am_at 72 12 (.land) 1 13 := ⟨by decide +kernel, rfl⟩
theorem iX7_position_13 : am_at 72 13 (.l2i) 1 14 := ⟨by decide +kernel, rfl⟩
theorem iX7_position_14 : am_at 72 14 (.ireturn) 1 15 := ⟨by decide +kernel, rfl⟩
end
section
theorem iX7_isToken_0 : am_at 73 0 (.lload_n 1) 1 1 := ⟨by decide +kernel, rfl⟩
theorem iX7_isToken_1 : am_at 73 1 (.bipush 20) 2 3 := ⟨by decide +kernel, rfl⟩
theorem iX7_isToken_3 : am_at 73 3 (.lshr) 1 4 := ⟨by decide +kernel, rfl⟩
theorem iX7_isToken_4 : am_at 73 4 (.lstore_n 3) 1 5 := ⟨by decide +kernel, rfl⟩
theorem iX7_isToken_5 : am_at 73 5 (.lload_n 1) 1 6 := ⟨by decide +kernel, rfl⟩
theorem iX7_isToken_6 : am_at 73 6 (.lconst 0) 1 7 := ⟨by decide +kernel, rfl⟩
theorem iX7_isToken_7 : am_at 73 7 (.lcmp) 1 8 := ⟨by decide +kernel, rfl⟩
theorem iX7_isToken_8 : am_jp 73 8 (.ifCond .lt 24) 24 32 11 := ⟨by decide +kernel, by decide, rfl⟩
theorem iX7_isToken_11 : am_at 73 11 (.lload_n 3) 1 12 := ⟨by decide +kernel, rfl⟩
theorem iX7_isToken_12 : am_at 73 12 (.ldc2_w 138) 3 15 := ⟨by decide +kernel, rfl⟩
theorem iX7_isToken_15 : am_at 73 15 (.lcmp) 1 16 := ⟨by decide +kernel, rfl⟩
theorem iX7_isToken_16 : am_jp 73 16 (.ifCond .ge 16) 16 32 19 := ⟨by decide +kernel, by decide, rfl⟩
theorem iX7_isToken_19 : am_at 73 19 (.lload_n 1) 1 20 := ⟨by decide +kernel, rfl⟩
theorem iX7_isToken_20 : am_at 73 20 (.ldc2_w 140) 3 23 := ⟨by decide +kernel, rfl⟩
theorem iX7_isToken_23 : am_at 73 23 (.land) 1 24 := ⟨by decide +kernel, rfl⟩
theorem iX7_isToken_24 : am_at 73 24 (.lload_n 3) 1 25 := ⟨by decide +kernel, rfl⟩
theorem iX7_isToken_25 : am_at 73 25 (.invokestatic 132) 3 28 := ⟨by decide +kernel, rfl⟩
theorem cX7_isToken_132 : am_sS 73 132 70 := ⟨wd_831, wd_832, wd_6⟩
theorem iX7_isToken_28 : am_at 73 28 (.lcmp) 1 29 := ⟨by decide +kernel, rfl⟩
theorem iX7_isToken_29 : am_jp 73 29 (.ifCond .eq 5) 5 34 32 := ⟨by decide +kernel, by decide, rfl⟩
theorem iX7_isToken_32 : am_at 73 32 (.iconst 0) 1 33 := ⟨by decide +kernel, rfl⟩
theorem iX7_isToken_33 : am_at 73 33 (.ireturn) 1 34 := ⟨by decide +kernel, rfl⟩
theorem iX7_isToken_34 : am_at 73 34 (.iconst 1) 1 35 := ⟨by decide +kernel, rfl⟩
theorem iX7_isToken_35 : am_at 73 35 (.istore 5) 2 37 := ⟨by decide +kernel, rfl⟩
theorem iX7_isToken_37 : am_at 73 37 (.iconst 0) 1 38 := ⟨by decide +kernel, rfl⟩
theorem iX7_isToken_38 : am_at 73 38 (.istore 6) 2 40 := ⟨by decide +kernel, rfl⟩
theorem iX7_isToken_40 : am_at 73 40 (.iload 6) 2 42 := ⟨by decide +kernel, rfl⟩
theorem iX7_isToken_42 : am_at 73 42 (.iconst 3) 1 43 := ⟨by decide +kernel, rfl⟩
theorem iX7_isToken_43 : am_jp 73 43 (.if_icmp .ge 48) 48 91 46 := ⟨by decide +kernel, by decide, rfl⟩
theorem iX7_isToken_46 : am_at 73 46 (.iload 5) 2 48 := ⟨by decide +kernel, rfl⟩
theorem iX7_isToken_48 : am_at 73 48 (.lload_n 1) 1 49 := ⟨by decide +kernel, rfl⟩
theorem iX7_isToken_49 : am_at 73 49 (.iload 6) 2 51 := ⟨by decide +kernel, rfl⟩
theorem iX7_isToken_51 : am_at 73 51 (.invokestatic 142) 3 54 := ⟨by decide +kernel, rfl⟩
theorem cX7_isToken_142 : am_sS 73 142 72 := ⟨wd_926, wd_927, wd_6⟩
theorem iX7_isToken_54 : am_at 73 54 (.iload 6) 2 56 := ⟨by decide +kernel, rfl⟩
theorem iX7_isToken_56 : am_at 73 56 (.aload_n 0) 1 57 := ⟨by decide +kernel, rfl⟩
theorem iX7_isToken_57 : am_at 73 57 (.getfield 114) 3 60 := ⟨by decide +kernel, rfl⟩
theorem fX7_isToken_114 : am_fld 73 114 7 0 0 := ⟨by decide, rfl, wd_666⟩
theorem iX7_isToken_60 : am_jp 73 60 (.if_icmp .ge 13) 13 73 63 := ⟨by decide +kernel, by decide, rfl⟩
theorem iX7_isToken_63 : am_at 73 63 (.aload_n 0) 1 64 := ⟨by decide +kernel, rfl⟩
theorem iX7_isToken_64 : am_at 73 64 (.getfield 7) 3 67 := ⟨by decide +kernel, rfl⟩
theorem fX7_isToken_7 : am_fld 73 7 7 4 2 := ⟨by decide, rfl, wd_670⟩
theorem iX7_isToken_67 : am_at 73 67 (.iload 6) 2 69 := ⟨by decide +kernel, rfl⟩
theorem iX7_isToken_69 : am_at 73 69 (.iaload) 1 70 := ⟨by decide +kernel, rfl⟩
theorem iX7_isToken_70 : am_jp 73 70 (.goto 4) 4 74 73 := ⟨by decide +kernel, by decide, rfl⟩
theorem iX7_isToken_73 : am_at 73 73 (.iconst 0) 1 74 := ⟨by decide +kernel, rfl⟩
theorem iX7_isToken_74 : am_jp 73 74 (.if_icmp .gt 7) 7 81 77 := ⟨by decide +kernel, by decide, rfl⟩
theorem iX7_isToken_77 : am_at 73 77 (.iconst 1) 1 78 := ⟨by decide +kernel, rfl⟩
theorem iX7_isToken_78 : am_jp 73 78 (.goto 4) 4 82 81 := ⟨by decide +kernel, by decide, rfl⟩
theorem iX7_isToken_81 : am_at 73 81 (.iconst 0) 1 82 := ⟨by decide +kernel, rfl⟩
theorem iX7_isToken_82 : am_at 73 82 (.iand) 1 83 := ⟨by decide +kernel, rfl⟩
theorem iX7_isToken_83 : am_at 73 83 (.istore 5) 2 85 := ⟨by decide +kernel, rfl⟩
theorem iX7_isToken_85 : am_at 73 85 (.iinc 6 1) 3 88 := ⟨by decide +kernel, rfl⟩
theorem iX7_isToken_88 : am_jp 73 88 (.goto (-48)) (-48) 40 91 := ⟨by decide +kernel, by decide, rfl⟩
theorem iX7_isToken_91 : am_at 73 91 (.iload 5) 2 93 := ⟨by decide +kernel, rfl⟩
theorem iX7_isToken_93 : am_at 73 93 (.ireturn) 1 94 := ⟨by decide +kernel, rfl⟩
theorem iX7_isSession_0 : am_at 74 0 (.iload_n 0) 1 1 := ⟨by decide +kernel, rfl⟩
theorem iX7_isSession_1 : am_at 74 1 (.i2l) 1 2 := ⟨by decide +kernel, rfl⟩
theorem iX7_isSession_2 : am_at 74 2 (.lconst 0) 1 3 := ⟨by decide +kernel, rfl⟩
theorem iX7_isSession_3 : am_at 74 3 (.ldc2_w 146) 3 6 := ⟨by decide +kernel, rfl⟩
theorem iX7_isSession_6 : am_at 74 6 (.invokestatic 148) 3 9 := ⟨by decide +kernel, rfl⟩
theorem cX7_isSession_148 : am_sS 74 148 69 := ⟨wd_797, wd_798, wd_6⟩
theorem iX7_isSession_9 : am_at 74 9 (.ireturn) 1 10 := ⟨by decide +kernel, rfl⟩
theorem iX7_isReplica_0 : am_at 75 0 (.iload_n 1) 1 1 := ⟨by decide +kernel, rfl⟩
theorem iX7_isReplica_1 : am_at 75 1 (.i2l) 1 2 := ⟨by decide +kernel, rfl⟩
theorem iX7_isReplica_2 : am_at 75 2 (.lconst 0) 1 3 := ⟨by decide +kernel, rfl⟩
theorem iX7_isReplica_3 : am_at 75 3 (.aload_n 0) 1 4 := ⟨by decide +kernel, rfl⟩
theorem iX7_isReplica_4 : am_at 75 4 (.getfield 118) 3 7 := ⟨by decide +kernel, rfl⟩
theorem fX7_isReplica_118 : am_fld 75 118 7 1 0 := ⟨by decide, rfl, wd_667⟩
theorem iX7_isReplica_7 : am_at 75 7 (.iconst 1) 1 8 := ⟨by decide +kernel, rfl⟩
theorem iX7_isReplica_8 : am_at 75 8 (.isub) 1 9 := ⟨by decide +kernel, rfl⟩
theorem iX7_isReplica_9 : am_at 75 9 (.i2l) 1 10 := ⟨by decide +kernel, rfl⟩
theorem iX7_isReplica_10 : am_at 75 10 (.invokestatic 148) 3 13 := ⟨by decide +kernel, rfl⟩
theorem cX7_isReplica_148 : am_sS 75 148 69 := ⟨wd_797, wd_798, wd_6⟩
theorem iX7_isReplica_13 : am_at 75 13 (.ireturn) 1 14 := ⟨by decide +kernel, rfl⟩
theorem iX7_isPart_0 : am_at 76 0 (.iload_n 1) 1 1 := ⟨by decide +kernel, rfl⟩
theorem iX7_isPart_1 : am_at 76 1 (.i2l) 1 2 := ⟨by decide +kernel, rfl⟩
theorem iX7_isPart_2 : am_at 76 2 (.lconst 0) 1 3 := ⟨by decide +kernel, rfl⟩
theorem iX7_isPart_3 : am_at 76 3 (.aload_n 0) 1 4 := ⟨by decide +kernel, rfl⟩
theorem iX7_isPart_4 : am_at 76 4 (.getfield 114) 3 7 := ⟨by decide +kernel, rfl⟩
theorem fX7_isPart_114 : am_fld 76 114 7 0 0 := ⟨by decide, rfl, wd_666⟩
theorem iX7_isPart_7 : am_at 76 7 (.iconst 1) 1 8 := ⟨by decide +kernel, rfl⟩
theorem iX7_isPart_8 : am_at 76 8 (.isub) 1 9 := ⟨by decide +kernel, rfl⟩
theorem iX7_isPart_9 : am_at 76 9 (.i2l) 1 10 := ⟨by decide +kernel, rfl⟩
theorem iX7_isPart_10 : am_at 76 10 (.invokestatic 148) 3 13 := ⟨by decide +kernel, rfl⟩
theorem cX7_isPart_148 : am_sS 76 148 69 := ⟨wd_797, wd_798, wd_6⟩
theorem iX7_isPart_13 : am_at 76 13 (.ireturn) 1 14 := ⟨by decide +kernel, rfl⟩
theorem iX7_mode_0 : am_at 77 0 (.aload_n 0) 1 1 := ⟨by decide +kernel, rfl⟩
theorem iX7_mode_1 : am_at 77 1 (.iload_n 1) 1 2 := ⟨by decide +kernel, rfl⟩
theorem iX7_mode_2 : am_at 77 2 (.invokestatic 152) 3 5 := ⟨by decide +kernel, rfl⟩
theorem cX7_mode_152 : am_sS 77 152 74 := ⟨wd_793, wd_794, wd_6⟩
theorem iX7_mode_5 : am_jp 77 5 (.ifCond .ne 7) 7 12 8 := ⟨by decide +kernel, by decide, rfl⟩
theorem iX7_mode_8 : am_at 77 8 (.iconst 1) 1 9 := ⟨by decide +kernel, rfl⟩
theorem iX7_mode_9 : am_jp 77 9 (.goto 20) 20 29 12 := ⟨by decide +kernel, by decide, rfl⟩
theorem iX7_mode_12 : am_at 77 12 (.iload_n 2) 1 13 := ⟨by decide +kernel, rfl⟩
theorem iX7_mode_13 : am_at 77 13 (.i2l) 1 14 := ⟨by decide +kernel, rfl⟩
theorem iX7_mode_14 : am_at 77 14 (.lconst 0) 1 15 := ⟨by decide +kernel, rfl⟩
theorem iX7_mode_15 : am_at 77 15 (.ldc2_w 156) 3 18 := ⟨by decide +kernel, rfl⟩
theorem iX7_mode_18 : am_at 77 18 (.invokestatic 148) 3 21 := ⟨by decide +kernel, rfl⟩
theorem cX7_mode_148 : am_sS 77 148 69 := ⟨wd_797, wd_798, wd_6⟩
theorem iX7_mode_21 : am_jp 77 21 (.ifCond .ne 7) 7 28 24 := ⟨by decide +kernel, by decide, rfl⟩
theorem iX7_mode_24 : am_at 77 24 (.iconst 2) 1 25 := ⟨by decide +kernel, rfl⟩
theorem iX7_mode_25 : am_jp 77 25 (.goto 4) 4 29 28 := ⟨by decide +kernel, by decide, rfl⟩
theorem iX7_mode_28 : am_at 77 28 (.iconst 0) 1 29 := ⟨by decide +kernel, rfl⟩
theorem iX7_mode_29 : am_at 77 29 (.putfield 121) 3 32 := ⟨by decide +kernel, rfl⟩
theorem fX7_mode_121 : am_fld 77 121 7 2 0 := ⟨by decide, rfl, wd_668⟩
theorem iX7_mode_32 : am_at 77 32 (.aload_n 0) 1 33 := ⟨by decide +kernel, rfl⟩
theorem iX7_mode_33 : am_at 77 33 (.getfield 121) 3 36 := ⟨by decide +kernel, rfl⟩
theorem iX7_mode_36 : am_jp 77 36 (.ifCond .le 5) 5 41 39 := ⟨by decide +kernel, by decide, rfl⟩
theorem iX7_mode_39 : am_at 77 39 (.iconst 0) 1 40 := ⟨by decide +kernel, rfl⟩
theorem iX7_mode_40 : am_at 77 40 (.ireturn) 1 41 := ⟨by decide +kernel, rfl⟩
theorem iX7_mode_41 : am_at 77 41 (.aload_n 0) 1 42 := ⟨by decide +kernel, rfl⟩
theorem iX7_mode_42 : am_at 77 42 (.getfield 66) 3 45 := ⟨by decide +kernel, rfl⟩
theorem fX7_mode_66 : am_fld 77 66 7 22 2 := ⟨by decide, rfl, wd_688⟩
theorem iX7_mode_45 : am_at 77 45 (.iload_n 1) 1 46 := ⟨by decide +kernel, rfl⟩
theorem iX7_mode_46 : am_at 77 46 (.iaload) 1 47 := ⟨by decide +kernel, rfl⟩
theorem iX7_mode_47 : am_at 77 47 (.istore_n 3) 1 48 := ⟨by decide +kernel, rfl⟩
theorem iX7_mode_48 : am_at 77 48 (.aload_n 0) 1 49 := ⟨by decide +kernel, rfl⟩
theorem iX7_mode_49 : am_at 77 49 (.getfield 66) 3 52 := ⟨by decide +kernel, rfl⟩
theorem iX7_mode_52 : am_at 77 52 (.iload_n 1) 1 53 := ⟨by decide +kernel, rfl⟩
theorem iX7_mode_53 : am_at 77 53 (.iload_n 2) 1 54 := ⟨by decide +kernel, rfl⟩
theorem iX7_mode_54 : am_at 77 54 (.iastore) 1 55 := ⟨by decide +kernel, rfl⟩
theorem iX7_mode_55 : am_at 77 55 (.iload_n 3) 1 56 := ⟨by decide +kernel, rfl⟩
theorem iX7_mode_56 : am_at 77 56 (.iload_n 2) 1 57 := ⟨by decide +kernel, rfl⟩
theorem iX7_mode_57 : am_jp 77 57 (.if_icmp .eq 27) 27 84 60 := ⟨by decide +kernel, by decide, rfl⟩
theorem iX7_mode_60 : am_at 77 60 (.iconst 0) 1 61 := ⟨by decide +kernel, rfl⟩
theorem iX7_mode_61 : am_at 77 61 (.istore 4) 2 63 := ⟨by decide +kernel, rfl⟩
theorem iX7_mode_63 : am_at 77 63 (.iload 4) 2 65 := ⟨by decide +kernel, rfl⟩
theorem iX7_mode_65 : am_at 77 65 (.aload_n 0) 1 66 := ⟨by decide +kernel, rfl⟩
theorem iX7_mode_66 : am_at 77 66 (.getfield 118) 3 69 := ⟨by decide +kernel, rfl⟩
theorem fX7_mode_118 : am_fld 77 118 7 1 0 := ⟨by decide, rfl, wd_667⟩
theorem iX7_mode_69 : am_jp 77 69 (.if_icmp .ge 15) 15 84 72 := ⟨by decide +kernel, by decide, rfl⟩
theorem iX7_mode_72 : am_at 77 72 (.aload_n 0) 1 73 := ⟨by decide +kernel, rfl⟩
theorem iX7_mode_73 : am_at 77 73 (.iload 4) 2 75 := ⟨by decide +kernel, rfl⟩
theorem iX7_mode_75 : am_at 77 75 (.invokevirtual 158) 3 78 := ⟨by decide +kernel, rfl⟩
theorem cX7_mode_158 : am_sV 77 158 99 7 := ⟨wd_801, wd_803, wp_14, rfl, by decide⟩
theorem iX7_mode_78 : am_at 77 78 (.iinc 4 1) 3 81 := ⟨by decide +kernel, rfl⟩
theorem iX7_mode_81 : am_jp 77 81 (.goto (-18)) (-18) 63 84 := ⟨by decide +kernel, by decide, rfl⟩
theorem iX7_mode_84 : am_at 77 84 (.iload_n 3) 1 85 := ⟨by decide +kernel, rfl⟩
theorem iX7_mode_85 : am_at 77 85 (.ireturn) 1 86 := ⟨by decide +kernel, rfl⟩
theorem iX7_home_0 : am_at 78 0 (.aload_n 0) 1 1 := ⟨by decide +kernel, rfl⟩
theorem iX7_home_1 : am_at 78 1 (.iload_n 1) 1 2 := ⟨by decide +kernel, rfl⟩
theorem iX7_home_2 : am_at 78 2 (.invokestatic 152) 3 5 := ⟨by decide +kernel, rfl⟩
theorem cX7_home_152 : am_sS 78 152 74 := ⟨wd_793, wd_794, wd_6⟩
theorem iX7_home_5 : am_jp 78 5 (.ifCond .eq 15) 15 20 8 := ⟨by decide +kernel, by decide, rfl⟩
theorem iX7_home_8 : am_at 78 8 (.aload_n 0) 1 9 := ⟨by decide +kernel, rfl⟩
theorem iX7_home_9 : am_at 78 9 (.iload_n 2) 1 10 := ⟨by decide +kernel, rfl⟩
theorem iX7_home_10 : am_at 78 10 (.invokevirtual 162) 3 13 := ⟨by decide +kernel, rfl⟩
theorem cX7_home_162 : am_sV 78 162 75 7 := ⟨wd_842, wd_844, wp_20, rfl, by decide⟩
theorem iX7_home_13 : am_jp 78 13 (.ifCond .eq 7) 7 20 16 := ⟨by decide +kernel, by decide, rfl⟩
theorem iX7_home_16 : am_at 78 16 (.iconst 0) 1 17 := ⟨by decide +kernel, rfl⟩
theorem iX7_home_17 : am_jp 78 17 (.goto 4) 4 21 20 := ⟨by decide +kernel, by decide, rfl⟩
theorem iX7_home_20 : am_at 78 20 (.iconst 1) 1 21 := ⟨by decide +kernel, rfl⟩
theorem iX7_home_21 : am_at 78 21 (.putfield 121) 3 24 := ⟨by decide +kernel, rfl⟩
theorem fX7_home_121 : am_fld 78 121 7 2 0 := ⟨by decide, rfl, wd_668⟩
theorem iX7_home_24 : am_at 78 24 (.aload_n 0) 1 25 := ⟨by decide +kernel, rfl⟩
theorem iX7_home_25 : am_at 78 25 (.getfield 121) 3 28 := ⟨by decide +kernel, rfl⟩
theorem iX7_home_28 : am_jp 78 28 (.ifCond .le 5) 5 33 31 := ⟨by decide +kernel, by decide, rfl⟩
theorem iX7_home_31 : am_at 78 31 (.iconst 0) 1 32 := ⟨by decide +kernel, rfl⟩
theorem iX7_home_32 : am_at 78 32 (.ireturn) 1 33 := ⟨by decide +kernel, rfl⟩
theorem iX7_home_33 : am_at 78 33 (.aload_n 0) 1 34 := ⟨by decide +kernel, rfl⟩
theorem iX7_home_34 : am_at 78 34 (.getfield 69) 3 37 := ⟨by decide +kernel, rfl⟩
theorem fX7_home_69 : am_fld 78 69 7 23 2 := ⟨by decide, rfl, wd_689⟩
theorem iX7_home_37 : am_at 78 37 (.iload_n 1) 1 38 := ⟨by decide +kernel, rfl⟩
theorem iX7_home_38 : am_at 78 38 (.iaload) 1 39 := ⟨by decide +kernel, rfl⟩
theorem iX7_home_39 : am_at 78 39 (.istore_n 3) 1 40 := ⟨by decide +kernel, rfl⟩
theorem iX7_home_40 : am_at 78 40 (.aload_n 0) 1 41 := ⟨by decide +kernel, rfl⟩
theorem iX7_home_41 : am_at 78 41 (.getfield 69) 3 44 := ⟨by decide +kernel, rfl⟩
theorem iX7_home_44 : am_at 78 44 (.iload_n 1) 1 45 := ⟨by decide +kernel, rfl⟩
theorem iX7_home_45 : am_at 78 45 (.iload_n 2) 1 46 := ⟨by decide +kernel, rfl⟩
theorem iX7_home_46 : am_at 78 46 (.iastore) 1 47 := ⟨by decide +kernel, rfl⟩
theorem iX7_home_47 : am_at 78 47 (.iload_n 3) 1 48 := ⟨by decide +kernel, rfl⟩
theorem iX7_home_48 : am_at 78 48 (.ireturn) 1 49 := ⟨by decide +kernel, rfl⟩
theorem iX7_command_0 : am_at 79 0 (.iload_n 3) 1 1 := ⟨by decide +kernel, rfl⟩
theorem iX7_command_1 : am_at 79 1 (.i2l) 1 2 := ⟨by decide +kernel, rfl⟩
theorem iX7_command_2 : am_at 79 2 (.lconst 0) 1 3 := ⟨by decide +kernel, rfl⟩
theorem iX7_command_3 : am_at 79 3 (.ldc2_w 165) 3 6 := ⟨by decide +kernel, rfl⟩
theorem iX7_command_6 : am_at 79 6 (.invokestatic 148) 3 9 := ⟨by decide +kernel, rfl⟩
theorem cX7_command_148 : am_sS 79 148 69 := ⟨wd_797, wd_798, wd_6⟩
theorem iX7_command_9 : am_jp 79 9 (.ifCond .eq 12) 12 21 12 := ⟨by decide +kernel, by decide, rfl⟩
theorem iX7_command_12 : am_at 79 12 (.iload_n 3) 1 13 := ⟨by decide +kernel, rfl⟩
theorem iX7_command_13 : am_at 79 13 (.aload_n 0) 1 14 := ⟨by decide +kernel, rfl⟩
theorem iX7_command_14 : am_at 79 14 (.getfield 114) 3 17 := ⟨by decide +kernel, rfl⟩
theorem fX7_command_114 : am_fld 79 114 7 0 0 := ⟨by decide, rfl, wd_666⟩
theorem iX7_command_17 : am_at 79 17 (.irem) 1 18 := ⟨by decide +kernel, rfl⟩
theorem iX7_command_18 : am_jp 79 18 (.goto 4) 4 22 21 := ⟨by decide +kernel, by decide, rfl⟩
theorem iX7_command_21 : am_at 79 21 (.iconst 0) 1 22 := ⟨by decide +kernel, rfl⟩
theorem iX7_command_22 : am_at 79 22 (.istore 6) 2 24 := ⟨by decide +kernel, rfl⟩
theorem iX7_command_24 : am_at 79 24 (.iload_n 1) 1 25 := ⟨by decide +kernel, rfl⟩
theorem iX7_command_25 : am_at 79 25 (.invokestatic 152) 3 28 := ⟨by decide +kernel, rfl⟩
theorem cX7_command_152 : am_sS 79 152 74 := ⟨wd_793, wd_794, wd_6⟩
theorem iX7_command_28 : am_jp 79 28 (.ifCond .eq 32) 32 60 31 := ⟨by decide +kernel, by decide, rfl⟩
theorem iX7_command_31 : am_at 79 31 (.iload_n 3) 1 32 := ⟨by decide +kernel, rfl⟩
theorem iX7_command_32 : am_at 79 32 (.i2l) 1 33 := ⟨by decide +kernel, rfl⟩
theorem iX7_command_33 : am_at 79 33 (.lconst 0) 1 34 := ⟨by decide +kernel, rfl⟩
theorem iX7_command_34 : am_at 79 34 (.ldc2_w 165) 3 37 := ⟨by decide +kernel, rfl⟩
theorem iX7_command_37 : am_at 79 37 (.invokestatic 148) 3 40 := ⟨by decide +kernel, rfl⟩
theorem iX7_command_40 : am_jp 79 40 (.ifCond .eq 20) 20 60 43 := ⟨by decide +kernel, by decide, rfl⟩
theorem iX7_command_43 : am_at 79 43 (.iload 4) 2 45 := ⟨by decide +kernel, rfl⟩
theorem iX7_command_45 : am_at 79 45 (.i2l) 1 46 := ⟨by decide +kernel, rfl⟩
theorem iX7_command_46 : am_at 79 46 (.lconst 0) 1 47 := ⟨by decide +kernel, rfl⟩
theorem iX7_command_47 : am_at 79 47 (.ldc2_w 167) 3 50 := ⟨by decide +kernel, rfl⟩
theorem iX7_command_50 : am_at 79 50 (.invokestatic 148) 3 53 := ⟨by decide +kernel, rfl⟩
theorem iX7_command_53 : am_jp 79 53 (.ifCond .eq 7) 7 60 56 := ⟨by decide +kernel, by decide, rfl⟩
theorem iX7_command_56 : am_at 79 56 (.iconst 1) 1 57 := ⟨by decide +kernel, rfl⟩
theorem iX7_command_57 : am_jp 79 57 (.goto 4) 4 61 60 := ⟨by decide +kernel, by decide, rfl⟩
theorem iX7_command_60 : am_at 79 60 (.iconst 0) 1 61 := ⟨by decide +kernel, rfl⟩
theorem iX7_command_61 : am_at 79 61 (.istore 7) 2 63 := ⟨by decide +kernel, rfl⟩
theorem iX7_command_63 : am_at 79 63 (.aload_n 0) 1 64 := ⟨by decide +kernel, rfl⟩
theorem iX7_command_64 : am_at 79 64 (.iload 7) 2 66 := ⟨by decide +kernel, rfl⟩
theorem iX7_command_66 : am_jp 79 66 (.ifCond .ne 7) 7 73 69 := ⟨by decide +kernel, by decide, rfl⟩
theorem iX7_command_69 : am_at 79 69 (.iconst 1) 1 70 := ⟨by decide +kernel, rfl⟩
theorem iX7_command_70 : am_jp 79 70 (.goto 50) 50 120 73 := ⟨by decide +kernel, by decide, rfl⟩
theorem iX7_command_73 : am_at 79 73 (.iload_n 2) 1 74 := ⟨by decide +kernel, rfl⟩
theorem iX7_command_74 : am_at 79 74 (.i2l) 1 75 := ⟨by decide +kernel, rfl⟩
theorem iX7_command_75 : am_at 79 75 (.lconst 0) 1 76 := ⟨by decide +kernel, rfl⟩
theorem iX7_command_76 : am_at 79 76 (.ldc2_w 169) 3 79 := ⟨by decide +kernel, rfl⟩
theorem iX7_command_79 : am_at 79 79 (.invokestatic 148) 3 82 := ⟨by decide +kernel, rfl⟩
theorem iX7_command_82 : am_jp 79 82 (.ifCond .eq 16) 16 98 85 := ⟨by decide +kernel, by decide, rfl⟩
theorem iX7_command_85 : am_at 79 85 (.iload 5) 2 87 := ⟨by decide +kernel, rfl⟩
theorem iX7_command_87 : am_at 79 87 (.i2l) 1 88 := ⟨by decide +kernel, rfl⟩
theorem iX7_command_88 : am_at 79 88 (.lconst 1) 1 89 := ⟨by decide +kernel, rfl⟩
theorem iX7_command_89 : am_at 79 89 (.ldc2_w 171) 3 92 := ⟨by decide +kernel, rfl⟩
theorem iX7_command_92 : am_at 79 92 (.invokestatic 148) 3 95 := ⟨by decide +kernel, rfl⟩
theorem iX7_command_95 : am_jp 79 95 (.ifCond .ne 7) 7 102 98 := ⟨by decide +kernel, by decide, rfl⟩
theorem iX7_command_98 : am_at 79 98 (.iconst 2) 1 99 := ⟨by decide +kernel, rfl⟩
theorem iX7_command_99 : am_jp 79 99 (.goto 21) 21 120 102 := ⟨by decide +kernel, by decide, rfl⟩
theorem iX7_command_102 : am_at 79 102 (.aload_n 0) 1 103 := ⟨by decide +kernel, rfl⟩
theorem iX7_command_103 : am_at 79 103 (.getfield 7) 3 106 := ⟨by decide +kernel, rfl⟩
theorem fX7_command_7 : am_fld 79 7 7 4 2 := ⟨by decide, rfl, wd_670⟩
theorem iX7_command_106 : am_at 79 106 (.iload 6) 2 108 := ⟨by decide +kernel, rfl⟩
theorem iX7_command_108 : am_at 79 108 (.iaload) 1 109 := ⟨by decide +kernel, rfl⟩
theorem iX7_command_109 : am_at 79 109 (.sipush 400) 3 112 := ⟨by decide +kernel, rfl⟩
theorem iX7_command_112 : am_jp 79 112 (.if_icmp .ne 7) 7 119 115 := ⟨by decide +kernel, by decide, rfl⟩
theorem iX7_command_115 : am_at 79 115 (.iconst 3) 1 116 := ⟨by decide +kernel, rfl⟩
theorem iX7_command_116 : am_jp 79 116 (.goto 4) 4 120 119 := ⟨by decide +kernel, by decide, rfl⟩
theorem iX7_command_119 : am_at 79 119 (.iconst 0) 1 120 := ⟨by decide +kernel, rfl⟩
theorem iX7_command_120 : am_at 79 120 (.putfield 121) 3 123 := ⟨by decide +kernel, rfl⟩
theorem fX7_command_121 : am_fld 79 121 7 2 0 := ⟨by decide, rfl, wd_668⟩
theorem iX7_command_123 : am_at 79 123 (.aload_n 0) 1 124 := ⟨by decide +kernel, rfl⟩
theorem iX7_command_124 : am_at 79 124 (.getfield 121) 3 127 := ⟨by decide +kernel, rfl⟩
theorem iX7_command_127 : am_jp 79 127 (.ifCond .le 5) 5 132 130 := ⟨by decide +kernel, by decide, rfl⟩
theorem iX7_command_130 : am_at 79 130 (.lconst 0) 1 131 := ⟨by decide +kernel, rfl⟩
theorem iX7_command_131 : am_at 79 131 (.lreturn) 1 132 := ⟨by decide +kernel, rfl⟩
theorem iX7_command_132 : am_at 79 132 (.aload_n 0) 1 133 := ⟨by decide +kernel, rfl⟩
theorem iX7_command_133 : am_at 79 133 (.getfield 7) 3 136 := ⟨by decide +kernel, rfl⟩
theorem iX7_command_136 : am_at 79 136 (.iload 6) 2 138 := ⟨by decide +kernel, rfl⟩
theorem iX7_command_138 : am_at 79 138 (.dup2) 1 139 := ⟨by decide +kernel, rfl⟩
theorem iX7_command_139 : am_at 79 139 (.iaload) 1 140 := ⟨by decide +kernel, rfl⟩
theorem iX7_command_140 : am_at 79 140 (.iconst 1) 1 141 := ⟨by decide +kernel, rfl⟩
theorem iX7_command_141 : am_at 79 141 (.iadd) 1 142 := ⟨by decide +kernel, rfl⟩
theorem iX7_command_142 : am_at 79 142 (.iastore) 1 143 := ⟨by decide +kernel, rfl⟩
theorem iX7_command_143 : am_at 79 143 (.sipush 401) 3 146 := ⟨by decide +kernel, rfl⟩
theorem iX7_command_146 : am_at 79 146 (.iload 6) 2 148 := ⟨by decide +kernel, rfl⟩
theorem iX7_command_148 : am_at 79 148 (.imul) 1 149 := ⟨by decide +kernel, rfl⟩
theorem iX7_command_149 : am_at 79 149 (.aload_n 0) 1 150 := ⟨by decide +kernel, rfl⟩
theorem iX7_command_150 : am_at 79 150 (.getfield 7) 3 153 := ⟨by decide +kernel, rfl⟩
theorem iX7_command_153 : am_at 79 153 (.iload 6) 2 155 := ⟨by decide +kernel, rfl⟩
theorem iX7_command_155 : am_at 79 155 (.iaload) 1 156 := ⟨by decide +kernel, rfl⟩
theorem iX7_command_156 : am_at 79 156 (.iadd) 1 157 := ⟨by decide +kernel, rfl⟩
theorem iX7_command_157 : am_at 79 157 (.istore 8) 2 159 := ⟨by decide +kernel, rfl⟩
theorem iX7_command_159 : am_at 79 159 (.aload_n 0) 1 160 := ⟨by decide +kernel, rfl⟩
theorem iX7_command_160 : am_at 79 160 (.getfield 16) 3 163 := ⟨by decide +kernel, rfl⟩
theorem fX7_command_16 : am_fld 79 16 7 6 2 := ⟨by decide, rfl, wd_672⟩
theorem iX7_command_163 : am_at 79 163 (.iload 8) 2 165 := ⟨by decide +kernel, rfl⟩
theorem iX7_command_165 : am_at 79 165 (.iload_n 2) 1 166 := ⟨by decide +kernel, rfl⟩
theorem iX7_command_166 : am_at 79 166 (.iastore) 1 167 := ⟨by decide +kernel, rfl⟩
theorem iX7_command_167 : am_at 79 167 (.aload_n 0) 1 168 := ⟨by decide +kernel, rfl⟩
theorem iX7_command_168 : am_at 79 168 (.getfield 19) 3 171 := ⟨by decide +kernel, rfl⟩
theorem fX7_command_19 : am_fld 79 19 7 7 2 := ⟨by decide, rfl, wd_673⟩
theorem iX7_command_171 : am_at 79 171 (.iload 8) 2 173 := ⟨by decide +kernel, rfl⟩
theorem iX7_command_173 : am_at 79 173 (.iload_n 3) 1 174 := ⟨by decide +kernel, rfl⟩
theorem iX7_command_174 : am_at 79 174 (.iastore) 1 175 := ⟨by decide +kernel, rfl⟩
theorem iX7_command_175 : am_at 79 175 (.aload_n 0) 1 176 := ⟨by decide +kernel, rfl⟩
theorem iX7_command_176 : am_at 79 176 (.getfield 22) 3 179 := ⟨by decide +kernel, rfl⟩
theorem fX7_command_22 : am_fld 79 22 7 8 2 := ⟨by decide, rfl, wd_674⟩
theorem iX7_command_179 : am_at 79 179 (.iload 8) 2 181 := ⟨by decide +kernel, rfl⟩
theorem iX7_command_181 : am_at 79 181 (.iload 4) 2 183 := ⟨by decide +kernel, rfl⟩
theorem iX7_command_183 : am_at 79 183 (.iastore) 1 184 := ⟨by decide +kernel, rfl⟩
theorem iX7_command_184 : am_at 79 184 (.aload_n 0) 1 185 := ⟨by decide +kernel, rfl⟩
theorem iX7_command_185 : am_at 79 185 (.getfield 25) 3 188 := ⟨by decide +kernel, rfl⟩
theorem fX7_command_25 : am_fld 79 25 7 9 2 := ⟨by decide, rfl, wd_675⟩
theorem iX7_command_188 : am_at 79 188 (.iload 8) 2 190 := ⟨by decide +kernel, rfl⟩
theorem iX7_command_190 : am_at 79 190 (.iload 5) 2 192 := ⟨by decide +kernel, rfl⟩
theorem iX7_command_192 : am_at 79 192 (.iastore) 1 193 := ⟨by decide +kernel, rfl⟩
theorem iX7_command_193 : am_at 79 193 (.iconst 0) 1 194 := ⟨by decide +kernel, rfl⟩
theorem iX7_command_194 : am_at 79 194 (.istore 9) 2 196 := ⟨by decide +kernel, rfl⟩
theorem iX7_command_196 : am_at 79 196 (.iload 9) 2 198 := ⟨by decide +kernel, rfl⟩
theorem iX7_command_198 : am_at 79 198 (.iconst 3) 1 199 := ⟨by decide +kernel, rfl⟩
theorem iX7_command_199 : am_jp 79 199 (.if_icmp .ge 81) 81 280 202 := ⟨by decide +kernel, by decide, rfl⟩
theorem iX7_command_202 : am_at 79 202 (.aload_n 0) 1 203 := ⟨by decide +kernel, rfl⟩
theorem iX7_command_203 : am_at 79 203 (.getfield 66) 3 206 := ⟨by decide +kernel, rfl⟩
theorem fX7_command_66 : am_fld 79 66 7 22 2 := ⟨by decide, rfl, wd_688⟩
theorem iX7_command_206 : am_at 79 206 (.iload_n 1) 1 207 := ⟨by decide +kernel, rfl⟩
theorem iX7_command_207 : am_at 79 207 (.iaload) 1 208 := ⟨by decide +kernel, rfl⟩
theorem iX7_command_208 : am_at 79 208 (.iconst 4) 1 209 := ⟨by decide +kernel, rfl⟩
theorem iX7_command_209 : am_at 79 209 (.iand) 1 210 := ⟨by decide +kernel, rfl⟩
theorem iX7_command_210 : am_jp 79 210 (.ifCond .eq 17) 17 227 213 := ⟨by decide +kernel, by decide, rfl⟩
theorem iX7_command_213 : am_at 79 213 (.aload_n 0) 1 214 := ⟨by decide +kernel, rfl⟩
theorem iX7_command_214 : am_at 79 214 (.getfield 75) 3 217 := ⟨by decide +kernel, rfl⟩
theorem fX7_command_75 : am_fld 79 75 7 25 2 := ⟨by decide, rfl, wd_691⟩
theorem iX7_command_217 : am_at 79 217 (.iconst 3) 1 218 := ⟨by decide +kernel, rfl⟩
theorem iX7_command_218 : am_at 79 218 (.iload_n 1) 1 219 := ⟨by decide +kernel, rfl⟩
theorem iX7_command_219 : am_at 79 219 (.imul) 1 220 := ⟨by decide +kernel, rfl⟩
theorem iX7_command_220 : am_at 79 220 (.iload 9) 2 222 := ⟨by decide +kernel, rfl⟩
theorem iX7_command_222 : am_at 79 222 (.iadd) 1 223 := ⟨by decide +kernel, rfl⟩
theorem iX7_command_223 : am_at 79 223 (.iaload) 1 224 := ⟨by decide +kernel, rfl⟩
theorem iX7_command_224 : am_jp 79 224 (.goto 4) 4 228 227 := ⟨by decide +kernel, by decide, rfl⟩
theorem iX7_command_227 : am_at 79 227 (.iconst 0) 1 228 := ⟨by decide +kernel, rfl⟩
theorem iX7_command_228 : am_at 79 228 (.istore 10) 2 230 := ⟨by decide +kernel, rfl⟩
theorem iX7_command_230 : am_at 79 230 (.aload_n 0) 1 231 := ⟨by decide +kernel, rfl⟩
theorem iX7_command_231 : am_at 79 231 (.getfield 66) 3 234 := ⟨by decide +kernel, rfl⟩
theorem iX7_command_234 : am_at 79 234 (.iload_n 1) 1 235 := ⟨by decide +kernel, rfl⟩
theorem iX7_command_235 : am_at 79 235 (.iaload) 1 236 := ⟨by decide +kernel, rfl⟩
theorem iX7_command_236 : am_at 79 236 (.bipush 8) 2 238 := ⟨by decide +kernel, rfl⟩
theorem iX7_command_238 : am_at 79 238 (.iand) 1 239 := ⟨by decide +kernel, rfl⟩
theorem iX7_command_239 : am_jp 79 239 (.ifCond .eq 21) 21 260 242 := ⟨by decide +kernel, by decide, rfl⟩
theorem iX7_command_242 : am_at 79 242 (.iload 10) 2 244 := ⟨by decide +kernel, rfl⟩
theorem iX7_command_244 : am_at 79 244 (.aload_n 0) 1 245 := ⟨by decide +kernel, rfl⟩
theorem iX7_command_245 : am_at 79 245 (.getfield 72) 3 248 := ⟨by decide +kernel, rfl⟩
theorem fX7_command_72 : am_fld 79 72 7 24 2 := ⟨by decide, rfl, wd_690⟩
theorem iX7_command_248 : am_at 79 248 (.iconst 3) 1 249 := ⟨by decide +kernel, rfl⟩
theorem iX7_command_249 : am_at 79 249 (.iload_n 1) 1 250 := ⟨by decide +kernel, rfl⟩
theorem iX7_command_250 : am_at 79 250 (.imul) 1 251 := ⟨by decide +kernel, rfl⟩
theorem iX7_command_251 : am_at 79 251 (.iload 9) 2 253 := ⟨by decide +kernel, rfl⟩
theorem iX7_command_253 : am_at 79 253 (.iadd) 1 254 := ⟨by decide +kernel, rfl⟩
theorem iX7_command_254 : am_at 79 254 (.iaload) 1 255 := ⟨by decide +kernel, rfl⟩
theorem iX7_command_255 : am_at 79 255 (.invokestatic 173) 3 258 := ⟨by decide +kernel, rfl⟩
theorem cX7_command_173 : am_sS 79 173 67 := ⟨wd_835, wd_836, wd_6⟩
theorem iX7_command_258 : am_at 79 258 (.istore 10) 2 260 := ⟨by decide +kernel, rfl⟩
theorem iX7_command_260 : am_at 79 260 (.aload_n 0) 1 261 := ⟨by decide +kernel, rfl⟩
theorem iX7_command_261 : am_at 79 261 (.getfield 28) 3 264 := ⟨by decide +kernel, rfl⟩
theorem fX7_command_28 : am_fld 79 28 7 10 2 := ⟨by decide, rfl, wd_676⟩
theorem iX7_command_264 : am_at 79 264 (.iconst 3) 1 265 := ⟨by decide +kernel, rfl⟩
theorem iX7_command_265 : am_at 79 265 (.iload 8) 2 267 := ⟨by decide +kernel, rfl⟩
theorem iX7_command_267 : am_at 79 267 (.imul) 1 268 := ⟨by decide +kernel, rfl⟩
theorem iX7_command_268 : am_at 79 268 (.iload 9) 2 270 := ⟨by decide +kernel, rfl⟩
theorem iX7_command_270 : am_at 79 270 (.iadd) 1 271 := ⟨by decide +kernel, rfl⟩
theorem iX7_command_271 : am_at 79 271 (.iload 10) 2 273 := ⟨by decide +kernel, rfl⟩
theorem iX7_command_273 : am_at 79 273 (.iastore) 1 274 := ⟨by decide +kernel, rfl⟩
theorem iX7_command_274 : am_at 79 274 (.iinc 9 1) 3 277 := ⟨by decide +kernel, rfl⟩
theorem iX7_command_277 : am_jp 79 277 (.goto (-81)) (-81) 196 280 := ⟨by decide +kernel, by decide, rfl⟩
theorem iX7_command_280 : am_at 79 280 (.aload_n 0) 1 281 := ⟨by decide +kernel, rfl⟩
theorem iX7_command_281 : am_at 79 281 (.getfield 72) 3 284 := ⟨by decide +kernel, rfl⟩
theorem iX7_command_284 : am_at 79 284 (.iconst 3) 1 285 := ⟨by decide +kernel, rfl⟩
theorem iX7_command_285 : am_at 79 285 (.iload_n 1) 1 286 := ⟨by decide +kernel, rfl⟩
theorem iX7_command_286 : am_at 79 286 (.imul) 1 287 := ⟨by decide +kernel, rfl⟩
theorem iX7_command_287 : am_at 79 287 (.iload 6) 2 289 := ⟨by decide +kernel, rfl⟩
theorem iX7_command_289 : am_at 79 289 (.iadd) 1 290 := ⟨by decide +kernel, rfl⟩
theorem iX7_command_290 : am_at 79 290 (.aload_n 0) 1 291 := ⟨by decide +kernel, rfl⟩
theorem iX7_command_291 : am_at 79 291 (.getfield 7) 3 294 := ⟨by decide +kernel, rfl⟩
theorem iX7_command_294 : am_at 79 294 (.iload 6) 2 296 := ⟨by decide +kernel, rfl⟩
theorem iX7_command_296 : am_at 79 296 (.iaload) 1 297 := ⟨by decide +kernel, rfl⟩
theorem iX7_command_297 : am_at 79 297 (.iastore) 1 298 := ⟨by decide +kernel, rfl⟩
theorem iX7_command_298 : am_at 79 298 (.iload 6) 2 300 := ⟨by decide +kernel, rfl⟩
theorem iX7_command_300 : am_jp 79 300 (.ifCond .ne 12) 12 312 303 := ⟨by decide +kernel, by decide, rfl⟩
theorem iX7_command_303 : am_at 79 303 (.aload_n 0) 1 304 := ⟨by decide +kernel, rfl⟩
theorem iX7_command_304 : am_at 79 304 (.getfield 7) 3 307 := ⟨by decide +kernel, rfl⟩
theorem iX7_command_307 : am_at 79 307 (.iconst 0) 1 308 := ⟨by decide +kernel, rfl⟩
theorem iX7_command_308 : am_at 79 308 (.iaload) 1 309 := ⟨by decide +kernel, rfl⟩
theorem iX7_command_309 : am_jp 79 309 (.goto 12) 12 321 312 := ⟨by decide +kernel, by decide, rfl⟩
theorem iX7_command_312 : am_at 79 312 (.aload_n 0) 1 313 := ⟨by decide +kernel, rfl⟩
theorem iX7_command_313 : am_at 79 313 (.getfield 28) 3 316 := ⟨by decide +kernel, rfl⟩
theorem iX7_command_316 : am_at 79 316 (.iconst 3) 1 317 := ⟨by decide +kernel, rfl⟩
theorem iX7_command_317 : am_at 79 317 (.iload 8) 2 319 := ⟨by decide +kernel, rfl⟩
theorem iX7_command_319 : am_at 79 319 (.imul) 1 320 := ⟨by decide +kernel, rfl⟩
theorem iX7_command_320 : am_at 79 320 (.iaload) 1 321 := ⟨by decide +kernel, rfl⟩
theorem iX7_command_321 : am_at 79 321 (.iload 6) 2 323 := ⟨by decide +kernel, rfl⟩
theorem iX7_command_323 : am_at 79 323 (.iconst 1) 1 324 := ⟨by decide +kernel, rfl⟩
theorem iX7_command_324 : am_jp 79 324 (.if_icmp .ne 12) 12 336 327 := ⟨by decide +kernel, by decide, rfl⟩
theorem iX7_command_327 : am_at 79 327 (.aload_n 0) 1 328 := ⟨by decide +kernel, rfl⟩
theorem iX7_command_328 : am_at 79 328 (.getfield 7) 3 331 := ⟨by decide +kernel, rfl⟩
theorem iX7_command_331 : am_at 79 331 (.iconst 1) 1 332 := ⟨by decide +kernel, rfl⟩
theorem iX7_command_332 : am_at 79 332 (.iaload) 1 333 := ⟨by decide +kernel, rfl⟩
theorem iX7_command_333 : am_jp 79 333 (.goto 14) 14 347 336 := ⟨by decide +kernel, by decide, rfl⟩
theorem iX7_command_336 : am_at 79 336 (.aload_n 0) 1 337 := ⟨by decide +kernel, rfl⟩
theorem iX7_command_337 : am_at 79 337 (.getfield 28) 3 340 := ⟨by decide +kernel, rfl⟩
theorem iX7_command_340 : am_at 79 340 (.iconst 3) 1 341 := ⟨by decide +kernel, rfl⟩
theorem iX7_command_341 : am_at 79 341 (.iload 8) 2 343 := ⟨by decide +kernel, rfl⟩
theorem iX7_command_343 : am_at 79 343 (.imul) 1 344 := ⟨by decide +kernel, rfl⟩
theorem iX7_command_344 : am_at 79 344 (.iconst 1) 1 345 := ⟨by decide +kernel, rfl⟩
theorem iX7_command_345 : am_at 79 345 (.iadd) 1 346 := ⟨by decide +kernel, rfl⟩
theorem iX7_command_346 : am_at 79 346 (.iaload) 1 347 := ⟨by decide +kernel, rfl⟩
theorem iX7_command_347 : am_at 79 347 (.iload 6) 2 349 := ⟨by decide +kernel, rfl⟩
theorem iX7_command_349 : am_at 79 349 (.iconst 2) 1 350 := ⟨by decide +kernel, rfl⟩
theorem iX7_command_350 : am_jp 79 350 (.if_icmp .ne 12) 12 362 353 := ⟨by decide +kernel, by decide, rfl⟩
theorem iX7_command_353 : am_at 79 353 (.aload_n 0) 1 354 := ⟨by decide +kernel, rfl⟩
theorem iX7_command_354 : am_at 79 354 (.getfield 7) 3 357 := ⟨by decide +kernel, rfl⟩
theorem iX7_command_357 : am_at 79 357 (.iconst 2) 1 358 := ⟨by decide +kernel, rfl⟩
theorem iX7_command_358 : am_at 79 358 (.iaload) 1 359 := ⟨by decide +kernel, rfl⟩
theorem iX7_command_359 : am_jp 79 359 (.goto 14) 14 373 362 := ⟨by decide +kernel, by decide, rfl⟩
theorem iX7_command_362 : am_at 79 362 (.aload_n 0) 1 363 := ⟨by decide +kernel, rfl⟩
theorem iX7_command_363 : am_at 79 363 (.getfield 28) 3 366 := ⟨by decide +kernel, rfl⟩
theorem iX7_command_366 : am_at 79 366 (.iconst 3) 1 367 := ⟨by decide +kernel, rfl⟩
theorem iX7_command_367 : am_at 79 367 (.iload 8) 2 369 := ⟨by decide +kernel, rfl⟩
theorem iX7_command_369 : am_at 79 369 (.imul) 1 370 := ⟨by decide +kernel, rfl⟩
theorem iX7_command_370 : am_at 79 370 (.iconst 2) 1 371 := ⟨by decide +kernel, rfl⟩
theorem iX7_command_371 : am_at 79 371 (.iadd) 1 372 := ⟨by decide +kernel, rfl⟩
theorem iX7_command_372 : am_at 79 372 (.iaload) 1 373 := ⟨by decide +kernel, rfl⟩
theorem iX7_command_373 : am_at 79 373 (.invokestatic 177) 3 376 := ⟨by decide +kernel, rfl⟩
theorem cX7_command_177 : am_sS 79 177 71 := ⟨wd_825, wd_826, wd_6⟩
theorem iX7_command_376 : am_at 79 376 (.lreturn) 1 377 := ⟨by decide +kernel, rfl⟩
theorem iX7_take_0 : am_at 80 0 (.bipush 30) 2 2 := ⟨by decide +kernel, rfl⟩
theorem iX7_take_2 : am_at 80 2 (.iload_n 1) 1 3 := ⟨by decide +kernel, rfl⟩
theorem iX7_take_3 : am_at 80 3 (.imul) 1 4 := ⟨by decide +kernel, rfl⟩
theorem iX7_take_4 : am_at 80 4 (.aload_n 0) 1 5 := ⟨by decide +kernel, rfl⟩
theorem iX7_take_5 : am_at 80 5 (.getfield 19) 3 8 := ⟨by decide +kernel, rfl⟩
theorem fX7_take_19 : am_fld 80 19 7 7 2 := ⟨by decide, rfl, wd_673⟩
theorem iX7_take_8 : am_at 80 8 (.iload_n 2) 1 9 := ⟨by decide +kernel, rfl⟩
theorem iX7_take_9 : am_at 80 9 (.iaload) 1 10 := ⟨by decide +kernel, rfl⟩
theorem iX7_take_10 : am_at 80 10 (.iadd) 1 11 := ⟨by decide +kernel, rfl⟩
theorem iX7_take_11 : am_at 80 11 (.istore_n 3) 1 12 := ⟨by decide +kernel, rfl⟩
theorem iX7_take_12 : am_at 80 12 (.bipush 10) 2 14 := ⟨by decide +kernel, rfl⟩
theorem iX7_take_14 : am_at 80 14 (.iload_n 1) 1 15 := ⟨by decide +kernel, rfl⟩
theorem iX7_take_15 : am_at 80 15 (.imul) 1 16 := ⟨by decide +kernel, rfl⟩
theorem iX7_take_16 : am_at 80 16 (.aload_n 0) 1 17 := ⟨by decide +kernel, rfl⟩
theorem iX7_take_17 : am_at 80 17 (.getfield 22) 3 20 := ⟨by decide +kernel, rfl⟩
theorem fX7_take_22 : am_fld 80 22 7 8 2 := ⟨by decide, rfl, wd_674⟩
theorem iX7_take_20 : am_at 80 20 (.iload_n 2) 1 21 := ⟨by decide +kernel, rfl⟩
theorem iX7_take_21 : am_at 80 21 (.iaload) 1 22 := ⟨by decide +kernel, rfl⟩
theorem iX7_take_22 : am_at 80 22 (.iadd) 1 23 := ⟨by decide +kernel, rfl⟩
theorem iX7_take_23 : am_at 80 23 (.istore 4) 2 25 := ⟨by decide +kernel, rfl⟩
theorem iX7_take_25 : am_at 80 25 (.bipush 30) 2 27 := ⟨by decide +kernel, rfl⟩
theorem iX7_take_27 : am_at 80 27 (.iload 4) 2 29 := ⟨by decide +kernel, rfl⟩
theorem iX7_take_29 : am_at 80 29 (.imul) 1 30 := ⟨by decide +kernel, rfl⟩
theorem iX7_take_30 : am_at 80 30 (.aload_n 0) 1 31 := ⟨by decide +kernel, rfl⟩
theorem iX7_take_31 : am_at 80 31 (.getfield 19) 3 34 := ⟨by decide +kernel, rfl⟩
theorem iX7_take_34 : am_at 80 34 (.iload_n 2) 1 35 := ⟨by decide +kernel, rfl⟩
theorem iX7_take_35 : am_at 80 35 (.iaload) 1 36 := ⟨by decide +kernel, rfl⟩
theorem iX7_take_36 : am_at 80 36 (.iadd) 1 37 := ⟨by decide +kernel, rfl⟩
theorem iX7_take_37 : am_at 80 37 (.istore 5) 2 39 := ⟨by decide +kernel, rfl⟩
theorem iX7_take_39 : am_at 80 39 (.aload_n 0) 1 40 := ⟨by decide +kernel, rfl⟩
theorem iX7_take_40 : am_at 80 40 (.getfield 25) 3 43 := ⟨by decide +kernel, rfl⟩
theorem fX7_take_25 : am_fld 80 25 7 9 2 := ⟨by decide, rfl, wd_675⟩
theorem iX7_take_43 : am_at 80 43 (.iload_n 2) 1 44 := ⟨by decide +kernel, rfl⟩
theorem iX7_take_44 : am_at 80 44 (.iaload) 1 45 := ⟨by decide +kernel, rfl⟩
theorem iX7_take_45 : am_at 80 45 (.istore 6) 2 47 := ⟨by decide +kernel, rfl⟩
theorem iX7_take_47 : am_at 80 47 (.aload_n 0) 1 48 := ⟨by decide +kernel, rfl⟩
theorem iX7_take_48 : am_at 80 48 (.getfield 16) 3 51 := ⟨by decide +kernel, rfl⟩
theorem fX7_take_16 : am_fld 80 16 7 6 2 := ⟨by decide, rfl, wd_672⟩
theorem iX7_take_51 : am_at 80 51 (.iload_n 2) 1 52 := ⟨by decide +kernel, rfl⟩
theorem iX7_take_52 : am_at 80 52 (.iaload) 1 53 := ⟨by decide +kernel, rfl⟩
theorem iX7_take_53 : decode (am_b 80) 53 = .ok (.tableswitch 241 0 3 #[31, 59, 117, 201], 31) := by decide +kernel
theorem iX7_take_84 : am_at 80 84 (.aload_n 0) 1 85 := ⟨by decide +kernel, rfl⟩
theorem iX7_take_85 : am_at 80 85 (.getfield 31) 3 88 := ⟨by decide +kernel, rfl⟩
theorem fX7_take_31 : am_fld 80 31 7 11 2 := ⟨by decide, rfl, wd_677⟩
theorem iX7_take_88 : am_at 80 88 (.iload_n 3) 1 89 := ⟨by decide +kernel, rfl⟩
theorem iX7_take_89 : am_at 80 89 (.iaload) 1 90 := ⟨by decide +kernel, rfl⟩
theorem iX7_take_90 : am_at 80 90 (.iload 6) 2 92 := ⟨by decide +kernel, rfl⟩
theorem iX7_take_92 : am_at 80 92 (.iadd) 1 93 := ⟨by decide +kernel, rfl⟩
theorem iX7_take_93 : am_at 80 93 (.ldc 181) 2 95 := ⟨by decide +kernel, rfl⟩
theorem iX7_take_95 : am_jp 80 95 (.if_icmp .gt 207) 207 302 98 := ⟨by decide +kernel, by decide, rfl⟩
theorem iX7_take_98 : am_at 80 98 (.aload_n 0) 1 99 := ⟨by decide +kernel, rfl⟩
theorem iX7_take_99 : am_at 80 99 (.getfield 31) 3 102 := ⟨by decide +kernel, rfl⟩
theorem iX7_take_102 : am_at 80 102 (.iload_n 3) 1 103 := ⟨by decide +kernel, rfl⟩
theorem iX7_take_103 : am_at 80 103 (.dup2) 1 104 := ⟨by decide +kernel, rfl⟩
theorem iX7_take_104 : am_at 80 104 (.iaload) 1 105 := ⟨by decide +kernel, rfl⟩
theorem iX7_take_105 : am_at 80 105 (.iload 6) 2 107 := ⟨by decide +kernel, rfl⟩
theorem iX7_take_107 : am_at 80 107 (.iadd) 1 108 := ⟨by decide +kernel, rfl⟩
theorem iX7_take_108 : am_at 80 108 (.iastore) 1 109 := ⟨by decide +kernel, rfl⟩
theorem iX7_take_109 : am_jp 80 109 (.goto 193) 193 302 112 := ⟨by decide +kernel, by decide, rfl⟩
theorem iX7_take_112 : am_at 80 112 (.aload_n 0) 1 113 := ⟨by decide +kernel, rfl⟩
theorem iX7_take_113 : am_at 80 113 (.getfield 31) 3 116 := ⟨by decide +kernel, rfl⟩
theorem iX7_take_116 : am_at 80 116 (.iload_n 3) 1 117 := ⟨by decide +kernel, rfl⟩
theorem iX7_take_117 : am_at 80 117 (.iaload) 1 118 := ⟨by decide +kernel, rfl⟩
theorem iX7_take_118 : am_at 80 118 (.aload_n 0) 1 119 := ⟨by decide +kernel, rfl⟩
theorem iX7_take_119 : am_at 80 119 (.getfield 34) 3 122 := ⟨by decide +kernel, rfl⟩
theorem fX7_take_34 : am_fld 80 34 7 12 2 := ⟨by decide, rfl, wd_678⟩
theorem iX7_take_122 : am_at 80 122 (.iload_n 3) 1 123 := ⟨by decide +kernel, rfl⟩
theorem iX7_take_123 : am_at 80 123 (.iaload) 1 124 := ⟨by decide +kernel, rfl⟩
theorem iX7_take_124 : am_at 80 124 (.isub) 1 125 := ⟨by decide +kernel, rfl⟩
theorem iX7_take_125 : am_at 80 125 (.iload 6) 2 127 := ⟨by decide +kernel, rfl⟩
theorem iX7_take_127 : am_jp 80 127 (.if_icmp .lt 29) 29 156 130 := ⟨by decide +kernel, by decide, rfl⟩
theorem iX7_take_130 : am_at 80 130 (.aload_n 0) 1 131 := ⟨by decide +kernel, rfl⟩
theorem iX7_take_131 : am_at 80 131 (.getfield 43) 3 134 := ⟨by decide +kernel, rfl⟩
theorem fX7_take_43 : am_fld 80 43 7 15 2 := ⟨by decide, rfl, wd_681⟩
theorem iX7_take_134 : am_at 80 134 (.iload 5) 2 136 := ⟨by decide +kernel, rfl⟩
theorem iX7_take_136 : am_at 80 136 (.dup2) 1 137 := ⟨by decide +kernel, rfl⟩
theorem iX7_take_137 : am_at 80 137 (.iaload) 1 138 := ⟨by decide +kernel, rfl⟩
theorem iX7_take_138 : am_at 80 138 (.iload 6) 2 140 := ⟨by decide +kernel, rfl⟩
theorem iX7_take_140 : am_at 80 140 (.iadd) 1 141 := ⟨by decide +kernel, rfl⟩
theorem iX7_take_141 : am_at 80 141 (.iastore) 1 142 := ⟨by decide +kernel, rfl⟩
theorem iX7_take_142 : am_at 80 142 (.aload_n 0) 1 143 := ⟨by decide +kernel, rfl⟩
theorem iX7_take_143 : am_at 80 143 (.getfield 34) 3 146 := ⟨by decide +kernel, rfl⟩
theorem iX7_take_146 : am_at 80 146 (.iload_n 3) 1 147 := ⟨by decide +kernel, rfl⟩
theorem iX7_take_147 : am_at 80 147 (.dup2) 1 148 := ⟨by decide +kernel, rfl⟩
theorem iX7_take_148 : am_at 80 148 (.iaload) 1 149 := ⟨by decide +kernel, rfl⟩
theorem iX7_take_149 : am_at 80 149 (.iload 6) 2 151 := ⟨by decide +kernel, rfl⟩
theorem iX7_take_151 : am_at 80 151 (.iadd) 1 152 := ⟨by decide +kernel, rfl⟩
theorem iX7_take_152 : am_at 80 152 (.iastore) 1 153 := ⟨by decide +kernel, rfl⟩
theorem iX7_take_153 : am_jp 80 153 (.goto 149) 149 302 156 := ⟨by decide +kernel, by decide, rfl⟩
theorem iX7_take_156 : am_at 80 156 (.aload_n 0) 1 157 := ⟨by decide +kernel, rfl⟩
theorem iX7_take_157 : am_at 80 157 (.getfield 50) 3 160 := ⟨by decide +kernel, rfl⟩
theorem fX7_take_50 : am_fld 80 50 7 17 2 := ⟨by decide, rfl, wd_683⟩
theorem iX7_take_160 : am_at 80 160 (.iload 4) 2 162 := ⟨by decide +kernel, rfl⟩
theorem iX7_take_162 : am_at 80 162 (.dup2) 1 163 := ⟨by decide +kernel, rfl⟩
theorem iX7_take_163 : am_at 80 163 (.iaload) 1 164 := ⟨by decide +kernel, rfl⟩
theorem iX7_take_164 : am_at 80 164 (.iconst 1) 1 165 := ⟨by decide +kernel, rfl⟩
theorem iX7_take_165 : am_at 80 165 (.iadd) 1 166 := ⟨by decide +kernel, rfl⟩
theorem iX7_take_166 : am_at 80 166 (.iastore) 1 167 := ⟨by decide +kernel, rfl⟩
theorem iX7_take_167 : am_jp 80 167 (.goto 135) 135 302 170 := ⟨by decide +kernel, by decide, rfl⟩
theorem iX7_take_170 : am_at 80 170 (.aload_n 0) 1 171 := ⟨by decide +kernel, rfl⟩
theorem iX7_take_171 : am_at 80 171 (.getfield 43) 3 174 := ⟨by decide +kernel, rfl⟩
theorem iX7_take_174 : am_at 80 174 (.iload 5) 2 176 := ⟨by decide +kernel, rfl⟩
theorem iX7_take_176 : am_at 80 176 (.iaload) 1 177 := ⟨by decide +kernel, rfl⟩
theorem iX7_take_177 : am_at 80 177 (.iload 6) 2 179 := ⟨by decide +kernel, rfl⟩
theorem iX7_take_179 : am_jp 80 179 (.if_icmp .ge 6) 6 185 182 := ⟨by decide +kernel, by decide, rfl⟩
theorem iX7_take_182 : am_jp 80 182 (.goto 120) 120 302 185 := ⟨by decide +kernel, by decide, rfl⟩
theorem iX7_take_185 : am_at 80 185 (.aload_n 0) 1 186 := ⟨by decide +kernel, rfl⟩
theorem iX7_take_186 : am_at 80 186 (.getfield 43) 3 189 := ⟨by decide +kernel, rfl⟩
theorem iX7_take_189 : am_at 80 189 (.iload 5) 2 191 := ⟨by decide +kernel, rfl⟩
theorem iX7_take_191 : am_at 80 191 (.dup2) 1 192 := ⟨by decide +kernel, rfl⟩
theorem iX7_take_192 : am_at 80 192 (.iaload) 1 193 := ⟨by decide +kernel, rfl⟩
theorem iX7_take_193 : am_at 80 193 (.iload 6) 2 195 := ⟨by decide +kernel, rfl⟩
theorem iX7_take_195 : am_at 80 195 (.isub) 1 196 := ⟨by decide +kernel, rfl⟩
theorem iX7_take_196 : am_at 80 196 (.iastore) 1 197 := ⟨by decide +kernel, rfl⟩
theorem iX7_take_197 : am_at 80 197 (.aload_n 0) 1 198 := ⟨by decide +kernel, rfl⟩
theorem iX7_take_198 : am_at 80 198 (.getfield 34) 3 201 := ⟨by decide +kernel, rfl⟩
theorem iX7_take_201 : am_at 80 201 (.iload_n 3) 1 202 := ⟨by decide +kernel, rfl⟩
theorem iX7_take_202 : am_at 80 202 (.dup2) 1 203 := ⟨by decide +kernel, rfl⟩
theorem iX7_take_203 : am_at 80 203 (.iaload) 1 204 := ⟨by decide +kernel, rfl⟩
theorem iX7_take_204 : am_at 80 204 (.iload 6) 2 206 := ⟨by decide +kernel, rfl⟩
theorem iX7_take_206 : am_at 80 206 (.isub) 1 207 := ⟨by decide +kernel, rfl⟩
theorem iX7_take_207 : am_at 80 207 (.iastore) 1 208 := ⟨by decide +kernel, rfl⟩
theorem iX7_take_208 : am_at 80 208 (.aload_n 0) 1 209 := ⟨by decide +kernel, rfl⟩
theorem iX7_take_209 : am_at 80 209 (.getfield 31) 3 212 := ⟨by decide +kernel, rfl⟩
theorem iX7_take_212 : am_at 80 212 (.iload_n 3) 1 213 := ⟨by decide +kernel, rfl⟩
theorem iX7_take_213 : am_at 80 213 (.dup2) 1 214 := ⟨by decide +kernel, rfl⟩
theorem iX7_take_214 : am_at 80 214 (.iaload) 1 215 := ⟨by decide +kernel, rfl⟩
theorem iX7_take_215 : am_at 80 215 (.iload 6) 2 217 := ⟨by decide +kernel, rfl⟩
theorem iX7_take_217 : am_at 80 217 (.isub) 1 218 := ⟨by decide +kernel, rfl⟩
theorem iX7_take_218 : am_at 80 218 (.iastore) 1 219 := ⟨by decide +kernel, rfl⟩
theorem iX7_take_219 : am_at 80 219 (.aload_n 0) 1 220 := ⟨by decide +kernel, rfl⟩
theorem iX7_take_220 : am_at 80 220 (.getfield 37) 3 223 := ⟨by decide +kernel, rfl⟩
theorem fX7_take_37 : am_fld 80 37 7 13 2 := ⟨by decide, rfl, wd_679⟩
theorem iX7_take_223 : am_at 80 223 (.iload_n 3) 1 224 := ⟨by decide +kernel, rfl⟩
theorem iX7_take_224 : am_at 80 224 (.dup2) 1 225 := ⟨by decide +kernel, rfl⟩
theorem iX7_take_225 : am_at 80 225 (.iaload) 1 226 := ⟨by decide +kernel, rfl⟩
theorem iX7_take_226 : am_at 80 226 (.iload 6) 2 228 := ⟨by decide +kernel, rfl⟩
theorem iX7_take_228 : am_at 80 228 (.iadd) 1 229 := ⟨by decide +kernel, rfl⟩
theorem iX7_take_229 : am_at 80 229 (.iastore) 1 230 := ⟨by decide +kernel, rfl⟩
theorem iX7_take_230 : am_at 80 230 (.aload_n 0) 1 231 := ⟨by decide +kernel, rfl⟩
theorem iX7_take_231 : am_at 80 231 (.getfield 46) 3 234 := ⟨by decide +kernel, rfl⟩
theorem fX7_take_46 : am_fld 80 46 7 16 2 := ⟨by decide, rfl, wd_682⟩
theorem iX7_take_234 : am_at 80 234 (.iload 4) 2 236 := ⟨by decide +kernel, rfl⟩
theorem iX7_take_236 : am_at 80 236 (.dup2) 1 237 := ⟨by decide +kernel, rfl⟩
theorem iX7_take_237 : am_at 80 237 (.laload) 1 238 := ⟨by decide +kernel, rfl⟩
theorem iX7_take_238 : am_at 80 238 (.iload 6) 2 240 := ⟨by decide +kernel, rfl⟩
theorem iX7_take_240 : am_at 80 240 (.i2l) 1 241 := ⟨by decide +kernel, rfl⟩
theorem iX7_take_241 : am_at 80 241 (.aload_n 0) 1 242 := ⟨by decide +kernel, rfl⟩
theorem iX7_take_242 : am_at 80 242 (.getfield 40) 3 245 := ⟨by decide +kernel, rfl⟩
theorem fX7_take_40 : am_fld 80 40 7 14 2 := ⟨by decide, rfl, wd_680⟩
theorem iX7_take_245 : am_at 80 245 (.iload_n 3) 1 246 := ⟨by decide +kernel, rfl⟩
theorem iX7_take_246 : am_at 80 246 (.iaload) 1 247 := ⟨by decide +kernel, rfl⟩
theorem iX7_take_247 : am_at 80 247 (.i2l) 1 248 := ⟨by decide +kernel, rfl⟩
theorem iX7_take_248 : am_at 80 248 (.lmul) 1 249 := ⟨by decide +kernel, rfl⟩
theorem iX7_take_249 : am_at 80 249 (.ladd) 1 250 := ⟨by decide +kernel, rfl⟩
theorem iX7_take_250 : am_at 80 250 (.lastore) 1 251 := ⟨by decide +kernel, rfl⟩
theorem iX7_take_251 : am_jp 80 251 (.goto 51) 51 302 254 := ⟨by decide +kernel, by decide, rfl⟩
theorem iX7_take_254 : am_at 80 254 (.iload 6) 2 256 := ⟨by decide +kernel, rfl⟩
theorem iX7_take_256 : am_at 80 256 (.aload_n 0) 1 257 := ⟨by decide +kernel, rfl⟩
theorem iX7_take_257 : am_at 80 257 (.getfield 43) 3 260 := ⟨by decide +kernel, rfl⟩
theorem iX7_take_260 : am_at 80 260 (.iload 5) 2 262 := ⟨by decide +kernel, rfl⟩
theorem iX7_take_262 : am_at 80 262 (.iaload) 1 263 := ⟨by decide +kernel, rfl⟩
theorem iX7_take_263 : am_at 80 263 (.invokestatic 182) 3 266 := ⟨by decide +kernel, rfl⟩
theorem cX7_take_182 : am_sS 80 182 66 := ⟨wd_871, wd_872, wd_6⟩
theorem iX7_take_266 : am_at 80 266 (.istore 7) 2 268 := ⟨by decide +kernel, rfl⟩
theorem iX7_take_268 : am_at 80 268 (.aload_n 0) 1 269 := ⟨by decide +kernel, rfl⟩
theorem iX7_take_269 : am_at 80 269 (.getfield 43) 3 272 := ⟨by decide +kernel, rfl⟩
theorem iX7_take_272 : am_at 80 272 (.iload 5) 2 274 := ⟨by decide +kernel, rfl⟩
theorem iX7_take_274 : am_at 80 274 (.dup2) 1 275 := ⟨by decide +kernel, rfl⟩
theorem iX7_take_275 : am_at 80 275 (.iaload) 1 276 := ⟨by decide +kernel, rfl⟩
theorem iX7_take_276 : am_at 80 276 (.iload 7) 2 278 := ⟨by decide +kernel, rfl⟩
theorem iX7_take_278 : am_at 80 278 (.isub) 1 279 := ⟨by decide +kernel, rfl⟩
theorem iX7_take_279 : am_at 80 279 (.iastore) 1 280 := ⟨by decide +kernel, rfl⟩
theorem iX7_take_280 : am_at 80 280 (.aload_n 0) 1 281 := ⟨by decide +kernel, rfl⟩
theorem iX7_take_281 : am_at 80 281 (.getfield 34) 3 284 := ⟨by decide +kernel, rfl⟩
theorem iX7_take_284 : am_at 80 284 (.iload_n 3) 1 285 := ⟨by decide +kernel, rfl⟩
theorem iX7_take_285 : am_at 80 285 (.dup2) 1 286 := ⟨by decide +kernel, rfl⟩
theorem iX7_take_286 : am_at 80 286 (.iaload) 1 287 := ⟨by decide +kernel, rfl⟩
theorem iX7_take_287 : am_at 80 287 (.iload 7) 2 289 := ⟨by decide +kernel, rfl⟩
theorem iX7_take_289 : am_at 80 289 (.isub) 1 290 := ⟨by decide +kernel, rfl⟩
theorem iX7_take_290 : am_at 80 290 (.iastore) 1 291 := ⟨by decide +kernel, rfl⟩
theorem iX7_take_291 : am_jp 80 291 (.goto 11) 11 302 294 := ⟨by decide +kernel, by decide, rfl⟩
theorem iX7_take_294 : am_at 80 294 (.aload_n 0) 1 295 := ⟨by decide +kernel, rfl⟩
theorem iX7_take_295 : am_at 80 295 (.getfield 40) 3 298 := ⟨by decide +kernel, rfl⟩
theorem iX7_take_298 : am_at 80 298 (.iload_n 3) 1 299 := ⟨by decide +kernel, rfl⟩
theorem iX7_take_299 : am_at 80 299 (.iload 6) 2 301 := ⟨by decide +kernel, rfl⟩
theorem iX7_take_301 : am_at 80 301 (.iastore) 1 302 := ⟨by decide +kernel, rfl⟩
theorem iX7_take_302 : am_at 80 302 (.return_) 1 303 := ⟨by decide +kernel, rfl⟩
theorem iX7_covers_0 : am_at 81 0 (.iconst 1) 1 1 := ⟨by decide +kernel, rfl⟩
theorem iX7_covers_1 : am_at 81 1 (.istore 4) 2 3 := ⟨by decide +kernel, rfl⟩
theorem iX7_covers_3 : am_at 81 3 (.iconst 0) 1 4 := ⟨by decide +kernel, rfl⟩
theorem iX7_covers_4 : am_at 81 4 (.istore 5) 2 6 := ⟨by decide +kernel, rfl⟩
theorem iX7_covers_6 : am_at 81 6 (.iload 5) 2 8 := ⟨by decide +kernel, rfl⟩
theorem iX7_covers_8 : am_at 81 8 (.aload_n 0) 1 9 := ⟨by decide +kernel, rfl⟩
theorem iX7_covers_9 : am_at 81 9 (.getfield 114) 3 12 := ⟨by decide +kernel, rfl⟩
theorem fX7_covers_114 : am_fld 81 114 7 0 0 := ⟨by decide, rfl, wd_666⟩
theorem iX7_covers_12 : am_jp 81 12 (.if_icmp .ge 39) 39 51 15 := ⟨by decide +kernel, by decide, rfl⟩
theorem iX7_covers_15 : am_at 81 15 (.iload 4) 2 17 := ⟨by decide +kernel, rfl⟩
theorem iX7_covers_17 : am_at 81 17 (.aload_n 0) 1 18 := ⟨by decide +kernel, rfl⟩
theorem iX7_covers_18 : am_at 81 18 (.getfield 53) 3 21 := ⟨by decide +kernel, rfl⟩
theorem fX7_covers_53 : am_fld 81 53 7 18 2 := ⟨by decide, rfl, wd_684⟩
theorem iX7_covers_21 : am_at 81 21 (.iconst 3) 1 22 := ⟨by decide +kernel, rfl⟩
theorem iX7_covers_22 : am_at 81 22 (.iload_n 3) 1 23 := ⟨by decide +kernel, rfl⟩
theorem iX7_covers_23 : am_at 81 23 (.imul) 1 24 := ⟨by decide +kernel, rfl⟩
theorem iX7_covers_24 : am_at 81 24 (.iload 5) 2 26 := ⟨by decide +kernel, rfl⟩
theorem iX7_covers_26 : am_at 81 26 (.iadd) 1 27 := ⟨by decide +kernel, rfl⟩
theorem iX7_covers_27 : am_at 81 27 (.iaload) 1 28 := ⟨by decide +kernel, rfl⟩
theorem iX7_covers_28 : am_at 81 28 (.aload_n 1) 1 29 := ⟨by decide +kernel, rfl⟩
theorem iX7_covers_29 : am_at 81 29 (.iload_n 2) 1 30 := ⟨by decide +kernel, rfl⟩
theorem iX7_covers_30 : am_at 81 30 (.iload 5) 2 32 := ⟨by decide +kernel, rfl⟩
theorem iX7_covers_32 : am_at 81 32 (.iadd) 1 33 := ⟨by decide +kernel, rfl⟩
theorem iX7_covers_33 : am_at 81 33 (.iaload) 1 34 := ⟨by decide +kernel, rfl⟩
theorem iX7_covers_34 : am_jp 81 34 (.if_icmp .lt 7) 7 41 37 := ⟨by decide +kernel, by decide, rfl⟩
theorem iX7_covers_37 : am_at 81 37 (.iconst 1) 1 38 := ⟨by decide +kernel, rfl⟩
theorem iX7_covers_38 : am_jp 81 38 (.goto 4) 4 42 41 := ⟨by decide +kernel, by decide, rfl⟩
theorem iX7_covers_41 : am_at 81 41 (.iconst 0) 1 42 := ⟨by decide +kernel, rfl⟩
theorem iX7_covers_42 : am_at 81 42 (.iand) 1 43 := ⟨by decide +kernel, rfl⟩
theorem iX7_covers_43 : am_at 81 43 (.istore 4) 2 45 := ⟨by decide +kernel, rfl⟩
theorem iX7_covers_45 : am_at 81 45 (.iinc 5 1) 3 48 := ⟨by decide +kernel, rfl⟩
theorem iX7_covers_48 : am_jp 81 48 (.goto (-42)) (-42) 6 51 := ⟨by decide +kernel, by decide, rfl⟩
theorem iX7_covers_51 : am_at 81 51 (.iload 4) 2 53 := ⟨by decide +kernel, rfl⟩
theorem iX7_covers_53 : am_at 81 53 (.ireturn) 1 54 := ⟨by decide +kernel, rfl⟩
theorem iX7_advance_0 : am_at 82 0 (.aload_n 0) 1 1 := ⟨by decide +kernel, rfl⟩
theorem iX7_advance_1 : am_at 82 1 (.getfield 53) 3 4 := ⟨by decide +kernel, rfl⟩
theorem fX7_advance_53 : am_fld 82 53 7 18 2 := ⟨by decide, rfl, wd_684⟩
theorem iX7_advance_4 : am_at 82 4 (.iconst 3) 1 5 := ⟨by decide +kernel, rfl⟩
theorem iX7_advance_5 : am_at 82 5 (.iload_n 1) 1 6 := ⟨by decide +kernel, rfl⟩
theorem iX7_advance_6 : am_at 82 6 (.imul) 1 7 := ⟨by decide +kernel, rfl⟩
theorem iX7_advance_7 : am_at 82 7 (.iload_n 2) 1 8 := ⟨by decide +kernel, rfl⟩
theorem iX7_advance_8 : am_at 82 8 (.iadd) 1 9 := ⟨by decide +kernel, rfl⟩
theorem iX7_advance_9 : am_at 82 9 (.iaload) 1 10 := ⟨by decide +kernel, rfl⟩
theorem iX7_advance_10 : am_at 82 10 (.aload_n 0) 1 11 := ⟨by decide +kernel, rfl⟩
theorem iX7_advance_11 : am_at 82 11 (.getfield 7) 3 14 := ⟨by decide +kernel, rfl⟩
theorem fX7_advance_7 : am_fld 82 7 7 4 2 := ⟨by decide, rfl, wd_670⟩
theorem iX7_advance_14 : am_at 82 14 (.iload_n 2) 1 15 := ⟨by decide +kernel, rfl⟩
theorem iX7_advance_15 : am_at 82 15 (.iaload) 1 16 := ⟨by decide +kernel, rfl⟩
theorem iX7_advance_16 : am_jp 82 16 (.if_icmp .ne 5) 5 21 19 := ⟨by decide +kernel, by decide, rfl⟩
theorem iX7_advance_19 : am_at 82 19 (.iconst 0) 1 20 := ⟨by decide +kernel, rfl⟩
theorem iX7_advance_20 : am_at 82 20 (.ireturn) 1 21 := ⟨by decide +kernel, rfl⟩
theorem iX7_advance_21 : am_at 82 21 (.sipush 401) 3 24 := ⟨by decide +kernel, rfl⟩
theorem iX7_advance_24 : am_at 82 24 (.iload_n 2) 1 25 := ⟨by decide +kernel, rfl⟩
theorem iX7_advance_25 : am_at 82 25 (.imul) 1 26 := ⟨by decide +kernel, rfl⟩
theorem iX7_advance_26 : am_at 82 26 (.aload_n 0) 1 27 := ⟨by decide +kernel, rfl⟩
theorem iX7_advance_27 : am_at 82 27 (.getfield 53) 3 30 := ⟨by decide +kernel, rfl⟩
theorem iX7_advance_30 : am_at 82 30 (.iconst 3) 1 31 := ⟨by decide +kernel, rfl⟩
theorem iX7_advance_31 : am_at 82 31 (.iload_n 1) 1 32 := ⟨by decide +kernel, rfl⟩
theorem iX7_advance_32 : am_at 82 32 (.imul) 1 33 := ⟨by decide +kernel, rfl⟩
theorem iX7_advance_33 : am_at 82 33 (.iload_n 2) 1 34 := ⟨by decide +kernel, rfl⟩
theorem iX7_advance_34 : am_at 82 34 (.iadd) 1 35 := ⟨by decide +kernel, rfl⟩
theorem iX7_advance_35 : am_at 82 35 (.iaload) 1 36 := ⟨by decide +kernel, rfl⟩
theorem iX7_advance_36 : am_at 82 36 (.iadd) 1 37 := ⟨by decide +kernel, rfl⟩
theorem iX7_advance_37 : am_at 82 37 (.iconst 1) 1 38 := ⟨by decide +kernel, rfl⟩
theorem iX7_advance_38 : am_at 82 38 (.iadd) 1 39 := ⟨by decide +kernel, rfl⟩
theorem iX7_advance_39 : am_at 82 39 (.istore_n 3) 1 40 := ⟨by decide +kernel, rfl⟩
theorem iX7_advance_40 : am_at 82 40 (.aload_n 0) 1 41 := ⟨by decide +kernel, rfl⟩
theorem iX7_advance_41 : am_at 82 41 (.aload_n 0) 1 42 := ⟨by decide +kernel, rfl⟩
theorem iX7_advance_42 : am_at 82 42 (.getfield 28) 3 45 := ⟨by decide +kernel, rfl⟩
theorem fX7_advance_28 : am_fld 82 28 7 10 2 := ⟨by decide, rfl, wd_676⟩
theorem iX7_advance_45 : am_at 82 45 (.iconst 3) 1 46 := ⟨by decide +kernel, rfl⟩
theorem iX7_advance_46 : am_at 82 46 (.iload_n 3) 1 47 := ⟨by decide +kernel, rfl⟩
theorem iX7_advance_47 : am_at 82 47 (.imul) 1 48 := ⟨by decide +kernel, rfl⟩
theorem iX7_advance_48 : am_at 82 48 (.iload_n 1) 1 49 := ⟨by decide +kernel, rfl⟩
theorem iX7_advance_49 : am_at 82 49 (.invokevirtual 185) 3 52 := ⟨by decide +kernel, rfl⟩
theorem cX7_advance_185 : am_sV 82 185 81 7 := ⟨wd_809, wd_811, wp_16, rfl, by decide⟩
theorem iX7_advance_52 : am_jp 82 52 (.ifCond .ne 5) 5 57 55 := ⟨by decide +kernel, by decide, rfl⟩
theorem iX7_advance_55 : am_at 82 55 (.iconst (-1)) 1 56 := ⟨by decide +kernel, rfl⟩
theorem iX7_advance_56 : am_at 82 56 (.ireturn) 1 57 := ⟨by decide +kernel, rfl⟩
theorem iX7_advance_57 : am_at 82 57 (.aload_n 0) 1 58 := ⟨by decide +kernel, rfl⟩
theorem iX7_advance_58 : am_at 82 58 (.iload_n 1) 1 59 := ⟨by decide +kernel, rfl⟩
theorem iX7_advance_59 : am_at 82 59 (.iload_n 3) 1 60 := ⟨by decide +kernel, rfl⟩
theorem iX7_advance_60 : am_at 82 60 (.invokevirtual 189) 3 63 := ⟨by decide +kernel, rfl⟩
theorem cX7_advance_189 : am_sV 82 189 80 7 := ⟨wd_866, wd_868, wp_23, rfl, by decide⟩
theorem iX7_advance_63 : am_at 82 63 (.aload_n 0) 1 64 := ⟨by decide +kernel, rfl⟩
theorem iX7_advance_64 : am_at 82 64 (.getfield 53) 3 67 := ⟨by decide +kernel, rfl⟩
theorem iX7_advance_67 : am_at 82 67 (.iconst 3) 1 68 := ⟨by decide +kernel, rfl⟩
theorem iX7_advance_68 : am_at 82 68 (.iload_n 1) 1 69 := ⟨by decide +kernel, rfl⟩
theorem iX7_advance_69 : am_at 82 69 (.imul) 1 70 := ⟨by decide +kernel, rfl⟩
theorem iX7_advance_70 : am_at 82 70 (.iload_n 2) 1 71 := ⟨by decide +kernel, rfl⟩
theorem iX7_advance_71 : am_at 82 71 (.iadd) 1 72 := ⟨by decide +kernel, rfl⟩
theorem iX7_advance_72 : am_at 82 72 (.dup2) 1 73 := ⟨by decide +kernel, rfl⟩
theorem iX7_advance_73 : am_at 82 73 (.iaload) 1 74 := ⟨by decide +kernel, rfl⟩
theorem iX7_advance_74 : am_at 82 74 (.iconst 1) 1 75 := ⟨by decide +kernel, rfl⟩
theorem iX7_advance_75 : am_at 82 75 (.iadd) 1 76 := ⟨by decide +kernel, rfl⟩
theorem iX7_advance_76 : am_at 82 76 (.iastore) 1 77 := ⟨by decide +kernel, rfl⟩
theorem iX7_advance_77 : am_at 82 77 (.aload_n 0) 1 78 := ⟨by decide +kernel, rfl⟩
theorem iX7_advance_78 : am_at 82 78 (.getfield 59) 3 81 := ⟨by decide +kernel, rfl⟩
theorem fX7_advance_59 : am_fld 82 59 7 20 2 := ⟨by decide, rfl, wd_686⟩
theorem iX7_advance_81 : am_at 82 81 (.iload_n 1) 1 82 := ⟨by decide +kernel, rfl⟩
theorem iX7_advance_82 : am_at 82 82 (.iload_n 2) 1 83 := ⟨by decide +kernel, rfl⟩
theorem iX7_advance_83 : am_at 82 83 (.iconst 1) 1 84 := ⟨by decide +kernel, rfl⟩
theorem iX7_advance_84 : am_at 82 84 (.iadd) 1 85 := ⟨by decide +kernel, rfl⟩
theorem iX7_advance_85 : am_at 82 85 (.aload_n 0) 1 86 := ⟨by decide +kernel, rfl⟩
theorem iX7_advance_86 : am_at 82 86 (.getfield 114) 3 89 := ⟨by decide +kernel, rfl⟩
theorem fX7_advance_114 : am_fld 82 114 7 0 0 := ⟨by decide, rfl, wd_666⟩
theorem iX7_advance_89 : am_at 82 89 (.irem) 1 90 := ⟨by decide +kernel, rfl⟩
theorem iX7_advance_90 : am_at 82 90 (.iastore) 1 91 := ⟨by decide +kernel, rfl⟩
theorem iX7_advance_91 : am_at 82 91 (.aload_n 0) 1 92 := ⟨by decide +kernel, rfl⟩
theorem iX7_advance_92 : am_at 82 92 (.iload_n 1) 1 93 := ⟨by decide +kernel, rfl⟩
theorem iX7_advance_93 : am_at 82 93 (.invokevirtual 158) 3 96 := ⟨by decide +kernel, rfl⟩
theorem cX7_advance_158 : am_sV 82 158 99 7 := ⟨wd_801, wd_803, wp_14, rfl, by decide⟩
theorem iX7_advance_96 : am_at 82 96 (.iconst 1) 1 97 := ⟨by decide +kernel, rfl⟩
theorem iX7_advance_97 : am_at 82 97 (.ireturn) 1 98 := ⟨by decide +kernel, rfl⟩
theorem iX7_step_0 : am_at 83 0 (.aload_n 0) 1 1 := ⟨by decide +kernel, rfl⟩
theorem iX7_step_1 : am_at 83 1 (.aload_n 0) 1 2 := ⟨by decide +kernel, rfl⟩
theorem iX7_step_2 : am_at 83 2 (.iload_n 1) 1 3 := ⟨by decide +kernel, rfl⟩
theorem iX7_step_3 : am_at 83 3 (.invokevirtual 162) 3 6 := ⟨by decide +kernel, rfl⟩
theorem cX7_step_162 : am_sV 83 162 75 7 := ⟨wd_842, wd_844, wp_20, rfl, by decide⟩
theorem iX7_step_6 : am_jp 83 6 (.ifCond .eq 15) 15 21 9 := ⟨by decide +kernel, by decide, rfl⟩
theorem iX7_step_9 : am_at 83 9 (.aload_n 0) 1 10 := ⟨by decide +kernel, rfl⟩
theorem iX7_step_10 : am_at 83 10 (.iload_n 2) 1 11 := ⟨by decide +kernel, rfl⟩
theorem iX7_step_11 : am_at 83 11 (.invokevirtual 193) 3 14 := ⟨by decide +kernel, rfl⟩
theorem cX7_step_193 : am_sV 83 193 76 7 := ⟨wd_858, wd_860, wp_21, rfl, by decide⟩
theorem iX7_step_14 : am_jp 83 14 (.ifCond .eq 7) 7 21 17 := ⟨by decide +kernel, by decide, rfl⟩
theorem iX7_step_17 : am_at 83 17 (.iconst 0) 1 18 := ⟨by decide +kernel, rfl⟩
theorem iX7_step_18 : am_jp 83 18 (.goto 4) 4 22 21 := ⟨by decide +kernel, by decide, rfl⟩
theorem iX7_step_21 : am_at 83 21 (.iconst 1) 1 22 := ⟨by decide +kernel, rfl⟩
theorem iX7_step_22 : am_at 83 22 (.putfield 121) 3 25 := ⟨by decide +kernel, rfl⟩
theorem fX7_step_121 : am_fld 83 121 7 2 0 := ⟨by decide, rfl, wd_668⟩
theorem iX7_step_25 : am_at 83 25 (.aload_n 0) 1 26 := ⟨by decide +kernel, rfl⟩
theorem iX7_step_26 : am_at 83 26 (.getfield 121) 3 29 := ⟨by decide +kernel, rfl⟩
theorem iX7_step_29 : am_jp 83 29 (.ifCond .le 7) 7 36 32 := ⟨by decide +kernel, by decide, rfl⟩
theorem iX7_step_32 : am_at 83 32 (.iconst 0) 1 33 := ⟨by decide +kernel, rfl⟩
theorem iX7_step_33 : am_jp 83 33 (.goto 23) 23 56 36 := ⟨by decide +kernel, by decide, rfl⟩
theorem iX7_step_36 : am_at 83 36 (.aload_n 0) 1 37 := ⟨by decide +kernel, rfl⟩
theorem iX7_step_37 : am_at 83 37 (.getfield 62) 3 40 := ⟨by decide +kernel, rfl⟩
theorem fX7_step_62 : am_fld 83 62 7 21 2 := ⟨by decide, rfl, wd_687⟩
theorem iX7_step_40 : am_at 83 40 (.iload_n 1) 1 41 := ⟨by decide +kernel, rfl⟩
theorem iX7_step_41 : am_at 83 41 (.baload) 1 42 := ⟨by decide +kernel, rfl⟩
theorem iX7_step_42 : am_jp 83 42 (.ifCond .eq 12) 12 54 45 := ⟨by decide +kernel, by decide, rfl⟩
theorem iX7_step_45 : am_at 83 45 (.aload_n 0) 1 46 := ⟨by decide +kernel, rfl⟩
theorem iX7_step_46 : am_at 83 46 (.iload_n 1) 1 47 := ⟨by decide +kernel, rfl⟩
theorem iX7_step_47 : am_at 83 47 (.iload_n 2) 1 48 := ⟨by decide +kernel, rfl⟩
theorem iX7_step_48 : am_at 83 48 (.invokevirtual 196) 3 51 := ⟨by decide +kernel, rfl⟩
theorem cX7_step_196 : am_sV 83 196 82 7 := ⟨wd_862, wd_864, wp_22, rfl, by decide⟩
theorem iX7_step_51 : am_jp 83 51 (.goto 5) 5 56 54 := ⟨by decide +kernel, by decide, rfl⟩
theorem iX7_step_54 : am_at 83 54 (.bipush (-2)) 2 56 := ⟨by decide +kernel, rfl⟩
theorem iX7_step_56 : am_at 83 56 (.ireturn) 1 57 := ⟨by decide +kernel, rfl⟩
theorem iX7_speed_0 : am_at 84 0 (.aload_n 0) 1 1 := ⟨by decide +kernel, rfl⟩
theorem iX7_speed_1 : am_at 84 1 (.aload_n 0) 1 2 := ⟨by decide +kernel, rfl⟩
theorem iX7_speed_2 : am_at 84 2 (.iload_n 1) 1 3 := ⟨by decide +kernel, rfl⟩
theorem iX7_speed_3 : am_at 84 3 (.invokevirtual 162) 3 6 := ⟨by decide +kernel, rfl⟩
theorem cX7_speed_162 : am_sV 84 162 75 7 := ⟨wd_842, wd_844, wp_20, rfl, by decide⟩
theorem iX7_speed_6 : am_jp 84 6 (.ifCond .ne 7) 7 13 9 := ⟨by decide +kernel, by decide, rfl⟩
theorem iX7_speed_9 : am_at 84 9 (.iconst 1) 1 10 := ⟨by decide +kernel, rfl⟩
theorem iX7_speed_10 : am_jp 84 10 (.goto 20) 20 30 13 := ⟨by decide +kernel, by decide, rfl⟩
theorem iX7_speed_13 : am_at 84 13 (.iload_n 2) 1 14 := ⟨by decide +kernel, rfl⟩
theorem iX7_speed_14 : am_at 84 14 (.i2l) 1 15 := ⟨by decide +kernel, rfl⟩
theorem iX7_speed_15 : am_at 84 15 (.lconst 0) 1 16 := ⟨by decide +kernel, rfl⟩
theorem iX7_speed_16 : am_at 84 16 (.ldc2_w 199) 3 19 := ⟨by decide +kernel, rfl⟩
theorem iX7_speed_19 : am_at 84 19 (.invokestatic 148) 3 22 := ⟨by decide +kernel, rfl⟩
theorem cX7_speed_148 : am_sS 84 148 69 := ⟨wd_797, wd_798, wd_6⟩
theorem iX7_speed_22 : am_jp 84 22 (.ifCond .ne 7) 7 29 25 := ⟨by decide +kernel, by decide, rfl⟩
theorem iX7_speed_25 : am_at 84 25 (.iconst 2) 1 26 := ⟨by decide +kernel, rfl⟩
theorem iX7_speed_26 : am_jp 84 26 (.goto 4) 4 30 29 := ⟨by decide +kernel, by decide, rfl⟩
theorem iX7_speed_29 : am_at 84 29 (.iconst 0) 1 30 := ⟨by decide +kernel, rfl⟩
theorem iX7_speed_30 : am_at 84 30 (.putfield 121) 3 33 := ⟨by decide +kernel, rfl⟩
theorem fX7_speed_121 : am_fld 84 121 7 2 0 := ⟨by decide, rfl, wd_668⟩
theorem iX7_speed_33 : am_at 84 33 (.aload_n 0) 1 34 := ⟨by decide +kernel, rfl⟩
theorem iX7_speed_34 : am_at 84 34 (.getfield 121) 3 37 := ⟨by decide +kernel, rfl⟩
theorem iX7_speed_37 : am_jp 84 37 (.ifCond .le 5) 5 42 40 := ⟨by decide +kernel, by decide, rfl⟩
theorem iX7_speed_40 : am_at 84 40 (.iconst 0) 1 41 := ⟨by decide +kernel, rfl⟩
theorem iX7_speed_41 : am_at 84 41 (.ireturn) 1 42 := ⟨by decide +kernel, rfl⟩
theorem iX7_speed_42 : am_at 84 42 (.aload_n 0) 1 43 := ⟨by decide +kernel, rfl⟩
theorem iX7_speed_43 : am_at 84 43 (.getfield 56) 3 46 := ⟨by decide +kernel, rfl⟩
theorem fX7_speed_56 : am_fld 84 56 7 19 2 := ⟨by decide, rfl, wd_685⟩
theorem iX7_speed_46 : am_at 84 46 (.iload_n 1) 1 47 := ⟨by decide +kernel, rfl⟩
theorem iX7_speed_47 : am_at 84 47 (.iaload) 1 48 := ⟨by decide +kernel, rfl⟩
theorem iX7_speed_48 : am_at 84 48 (.istore_n 3) 1 49 := ⟨by decide +kernel, rfl⟩
theorem iX7_speed_49 : am_at 84 49 (.aload_n 0) 1 50 := ⟨by decide +kernel, rfl⟩
theorem iX7_speed_50 : am_at 84 50 (.getfield 56) 3 53 := ⟨by decide +kernel, rfl⟩
theorem iX7_speed_53 : am_at 84 53 (.iload_n 1) 1 54 := ⟨by decide +kernel, rfl⟩
theorem iX7_speed_54 : am_at 84 54 (.iload_n 2) 1 55 := ⟨by decide +kernel, rfl⟩
theorem iX7_speed_55 : am_at 84 55 (.iastore) 1 56 := ⟨by decide +kernel, rfl⟩
theorem iX7_speed_56 : am_at 84 56 (.iload_n 3) 1 57 := ⟨by decide +kernel, rfl⟩
theorem iX7_speed_57 : am_at 84 57 (.ireturn) 1 58 := ⟨by decide +kernel, rfl⟩
theorem iX7_tick_0 : am_at 85 0 (.aload_n 0) 1 1 := ⟨by decide +kernel, rfl⟩
theorem iX7_tick_1 : am_at 85 1 (.dup) 1 2 := ⟨by decide +kernel, rfl⟩
theorem iX7_tick_2 : am_at 85 2 (.getfield 201) 3 5 := ⟨by decide +kernel, rfl⟩
theorem fX7_tick_201 : am_fld 85 201 7 3 0 := ⟨by decide, rfl, wd_669⟩
theorem iX7_tick_5 : am_at 85 5 (.iconst 1) 1 6 := ⟨by decide +kernel, rfl⟩
theorem iX7_tick_6 : am_at 85 6 (.iadd) 1 7 := ⟨by decide +kernel, rfl⟩
theorem iX7_tick_7 : am_at 85 7 (.putfield 201) 3 10 := ⟨by decide +kernel, rfl⟩
theorem iX7_tick_10 : am_at 85 10 (.iconst 0) 1 11 := ⟨by decide +kernel, rfl⟩
theorem iX7_tick_11 : am_at 85 11 (.istore_n 1) 1 12 := ⟨by decide +kernel, rfl⟩
theorem iX7_tick_12 : am_at 85 12 (.iconst 0) 1 13 := ⟨by decide +kernel, rfl⟩
theorem iX7_tick_13 : am_at 85 13 (.istore_n 2) 1 14 := ⟨by decide +kernel, rfl⟩
theorem iX7_tick_14 : am_at 85 14 (.iload_n 2) 1 15 := ⟨by decide +kernel, rfl⟩
theorem iX7_tick_15 : am_at 85 15 (.aload_n 0) 1 16 := ⟨by decide +kernel, rfl⟩
theorem iX7_tick_16 : am_at 85 16 (.getfield 118) 3 19 := ⟨by decide +kernel, rfl⟩
theorem fX7_tick_118 : am_fld 85 118 7 1 0 := ⟨by decide, rfl, wd_667⟩
theorem iX7_tick_19 : am_jp 85 19 (.if_icmp .ge 91) 91 110 22 := ⟨by decide +kernel, by decide, rfl⟩
theorem iX7_tick_22 : am_at 85 22 (.iconst 0) 1 23 := ⟨by decide +kernel, rfl⟩
theorem iX7_tick_23 : am_at 85 23 (.istore_n 3) 1 24 := ⟨by decide +kernel, rfl⟩
theorem iX7_tick_24 : am_at 85 24 (.iconst 0) 1 25 := ⟨by decide +kernel, rfl⟩
theorem iX7_tick_25 : am_at 85 25 (.istore 4) 2 27 := ⟨by decide +kernel, rfl⟩
theorem iX7_tick_27 : am_at 85 27 (.aload_n 0) 1 28 := ⟨by decide +kernel, rfl⟩
theorem iX7_tick_28 : am_at 85 28 (.getfield 59) 3 31 := ⟨by decide +kernel, rfl⟩
theorem fX7_tick_59 : am_fld 85 59 7 20 2 := ⟨by decide, rfl, wd_686⟩
theorem iX7_tick_31 : am_at 85 31 (.iload_n 2) 1 32 := ⟨by decide +kernel, rfl⟩
theorem iX7_tick_32 : am_at 85 32 (.iaload) 1 33 := ⟨by decide +kernel, rfl⟩
theorem iX7_tick_33 : am_at 85 33 (.istore 5) 2 35 := ⟨by decide +kernel, rfl⟩
theorem iX7_tick_35 : am_at 85 35 (.aload_n 0) 1 36 := ⟨by decide +kernel, rfl⟩
theorem iX7_tick_36 : am_at 85 36 (.getfield 62) 3 39 := ⟨by decide +kernel, rfl⟩
theorem fX7_tick_62 : am_fld 85 62 7 21 2 := ⟨by decide, rfl, wd_687⟩
theorem iX7_tick_39 : am_at 85 39 (.iload_n 2) 1 40 := ⟨by decide +kernel, rfl⟩
theorem iX7_tick_40 : am_at 85 40 (.baload) 1 41 := ⟨by decide +kernel, rfl⟩
theorem iX7_tick_41 : am_jp 85 41 (.ifCond .eq 59) 59 100 44 := ⟨by decide +kernel, by decide, rfl⟩
theorem iX7_tick_44 : am_at 85 44 (.iload_n 3) 1 45 := ⟨by decide +kernel, rfl⟩
theorem iX7_tick_45 : am_at 85 45 (.aload_n 0) 1 46 := ⟨by decide +kernel, rfl⟩
theorem iX7_tick_46 : am_at 85 46 (.getfield 56) 3 49 := ⟨by decide +kernel, rfl⟩
theorem fX7_tick_56 : am_fld 85 56 7 19 2 := ⟨by decide, rfl, wd_685⟩
theorem iX7_tick_49 : am_at 85 49 (.iload_n 2) 1 50 := ⟨by decide +kernel, rfl⟩
theorem iX7_tick_50 : am_at 85 50 (.iaload) 1 51 := ⟨by decide +kernel, rfl⟩
theorem iX7_tick_51 : am_jp 85 51 (.if_icmp .ge 49) 49 100 54 := ⟨by decide +kernel, by decide, rfl⟩
theorem iX7_tick_54 : am_at 85 54 (.iload 4) 2 56 := ⟨by decide +kernel, rfl⟩
theorem iX7_tick_56 : am_at 85 56 (.aload_n 0) 1 57 := ⟨by decide +kernel, rfl⟩
theorem iX7_tick_57 : am_at 85 57 (.getfield 114) 3 60 := ⟨by decide +kernel, rfl⟩
theorem fX7_tick_114 : am_fld 85 114 7 0 0 := ⟨by decide, rfl, wd_666⟩
theorem iX7_tick_60 : am_jp 85 60 (.if_icmp .ge 40) 40 100 63 := ⟨by decide +kernel, by decide, rfl⟩
theorem iX7_tick_63 : am_at 85 63 (.aload_n 0) 1 64 := ⟨by decide +kernel, rfl⟩
theorem iX7_tick_64 : am_at 85 64 (.iload_n 2) 1 65 := ⟨by decide +kernel, rfl⟩
theorem iX7_tick_65 : am_at 85 65 (.iload 5) 2 67 := ⟨by decide +kernel, rfl⟩
theorem iX7_tick_67 : am_at 85 67 (.invokevirtual 196) 3 70 := ⟨by decide +kernel, rfl⟩
theorem cX7_tick_196 : am_sV 85 196 82 7 := ⟨wd_862, wd_864, wp_22, rfl, by decide⟩
theorem iX7_tick_70 : am_at 85 70 (.iconst 1) 1 71 := ⟨by decide +kernel, rfl⟩
theorem iX7_tick_71 : am_jp 85 71 (.if_icmp .ne 12) 12 83 74 := ⟨by decide +kernel, by decide, rfl⟩
theorem iX7_tick_74 : am_at 85 74 (.iinc 3 1) 3 77 := ⟨by decide +kernel, rfl⟩
theorem iX7_tick_77 : am_at 85 77 (.iconst 0) 1 78 := ⟨by decide +kernel, rfl⟩
theorem iX7_tick_78 : am_at 85 78 (.istore 4) 2 80 := ⟨by decide +kernel, rfl⟩
theorem iX7_tick_80 : am_jp 85 80 (.goto 6) 6 86 83 := ⟨by decide +kernel, by decide, rfl⟩
theorem iX7_tick_83 : am_at 85 83 (.iinc 4 1) 3 86 := ⟨by decide +kernel, rfl⟩
theorem iX7_tick_86 : am_at 85 86 (.iload 5) 2 88 := ⟨by decide +kernel, rfl⟩
theorem iX7_tick_88 : am_at 85 88 (.iconst 1) 1 89 := ⟨by decide +kernel, rfl⟩
theorem iX7_tick_89 : am_at 85 89 (.iadd) 1 90 := ⟨by decide +kernel, rfl⟩
theorem iX7_tick_90 : am_at 85 90 (.aload_n 0) 1 91 := ⟨by decide +kernel, rfl⟩
theorem iX7_tick_91 : am_at 85 91 (.getfield 114) 3 94 := ⟨by decide +kernel, rfl⟩
theorem iX7_tick_94 : am_at 85 94 (.irem) 1 95 := ⟨by decide +kernel, rfl⟩
theorem iX7_tick_95 : am_at 85 95 (.istore 5) 2 97 := ⟨by decide +kernel, rfl⟩
theorem iX7_tick_97 : am_jp 85 97 (.goto (-62)) (-62) 35 100 := ⟨by decide +kernel, by decide, rfl⟩
theorem iX7_tick_100 : am_at 85 100 (.iload_n 1) 1 101 := ⟨by decide +kernel, rfl⟩
theorem iX7_tick_101 : am_at 85 101 (.iload_n 3) 1 102 := ⟨by decide +kernel, rfl⟩
theorem iX7_tick_102 : am_at 85 102 (.iadd) 1 103 := ⟨by decide +kernel, rfl⟩
theorem iX7_tick_103 : am_at 85 103 (.istore_n 1) 1 104 := ⟨by decide +kernel, rfl⟩
theorem iX7_tick_104 : am_at 85 104 (.iinc 2 1) 3 107 := ⟨by decide +kernel, rfl⟩
theorem iX7_tick_107 : am_jp 85 107 (.goto (-93)) (-93) 14 110 := ⟨by decide +kernel, by decide, rfl⟩
theorem iX7_tick_110 : am_at 85 110 (.iconst 0) 1 111 := ⟨by decide +kernel, rfl⟩
theorem iX7_tick_111 : am_at 85 111 (.istore_n 2) 1 112 := ⟨by decide +kernel, rfl⟩
theorem iX7_tick_112 : am_at 85 112 (.iload_n 2) 1 113 := ⟨by decide +kernel, rfl⟩
theorem iX7_tick_113 : am_at 85 113 (.aload_n 0) 1 114 := ⟨by decide +kernel, rfl⟩
theorem iX7_tick_114 : am_at 85 114 (.getfield 204) 3 117 := ⟨by decide +kernel, rfl⟩
theorem fX7_tick_204 : am_fld 85 204 7 26 0 := ⟨by decide, rfl, wd_692⟩
theorem iX7_tick_117 : am_jp 85 117 (.if_icmp .ge 43) 43 160 120 := ⟨by decide +kernel, by decide, rfl⟩
theorem iX7_tick_120 : am_at 85 120 (.aload_n 0) 1 121 := ⟨by decide +kernel, rfl⟩
theorem iX7_tick_121 : am_at 85 121 (.getfield 78) 3 124 := ⟨by decide +kernel, rfl⟩
theorem fX7_tick_78 : am_fld 85 78 7 27 2 := ⟨by decide, rfl, wd_693⟩
theorem iX7_tick_124 : am_at 85 124 (.iload_n 2) 1 125 := ⟨by decide +kernel, rfl⟩
theorem iX7_tick_125 : am_at 85 125 (.iaload) 1 126 := ⟨by decide +kernel, rfl⟩
theorem iX7_tick_126 : am_jp 85 126 (.ifCond .ne 28) 28 154 129 := ⟨by decide +kernel, by decide, rfl⟩
theorem iX7_tick_129 : am_at 85 129 (.aload_n 0) 1 130 := ⟨by decide +kernel, rfl⟩
theorem iX7_tick_130 : am_at 85 130 (.getfield 201) 3 133 := ⟨by decide +kernel, rfl⟩
theorem iX7_tick_133 : am_at 85 133 (.aload_n 0) 1 134 := ⟨by decide +kernel, rfl⟩
theorem iX7_tick_134 : am_at 85 134 (.getfield 93) 3 137 := ⟨by decide +kernel, rfl⟩
theorem fX7_tick_93 : am_fld 85 93 7 32 2 := ⟨by decide, rfl, wd_698⟩
theorem iX7_tick_137 : am_at 85 137 (.iload_n 2) 1 138 := ⟨by decide +kernel, rfl⟩
theorem iX7_tick_138 : am_at 85 138 (.iaload) 1 139 := ⟨by decide +kernel, rfl⟩
theorem iX7_tick_139 : am_at 85 139 (.isub) 1 140 := ⟨by decide +kernel, rfl⟩
theorem iX7_tick_140 : am_at 85 140 (.aload_n 0) 1 141 := ⟨by decide +kernel, rfl⟩
theorem iX7_tick_141 : am_at 85 141 (.getfield 90) 3 144 := ⟨by decide +kernel, rfl⟩
theorem fX7_tick_90 : am_fld 85 90 7 31 2 := ⟨by decide, rfl, wd_697⟩
theorem iX7_tick_144 : am_at 85 144 (.iload_n 2) 1 145 := ⟨by decide +kernel, rfl⟩
theorem iX7_tick_145 : am_at 85 145 (.iaload) 1 146 := ⟨by decide +kernel, rfl⟩
theorem iX7_tick_146 : am_jp 85 146 (.if_icmp .lt 8) 8 154 149 := ⟨by decide +kernel, by decide, rfl⟩
theorem iX7_tick_149 : am_at 85 149 (.aload_n 0) 1 150 := ⟨by decide +kernel, rfl⟩
theorem iX7_tick_150 : am_at 85 150 (.iload_n 2) 1 151 := ⟨by decide +kernel, rfl⟩
theorem iX7_tick_151 : am_at 85 151 (.invokevirtual 207) 3 154 := ⟨by decide +kernel, rfl⟩
theorem cX7_tick_207 : am_sV 85 207 86 7 := ⟨wd_888, wd_890, wp_25, rfl, by decide⟩
theorem iX7_tick_154 : am_at 85 154 (.iinc 2 1) 3 157 := ⟨by decide +kernel, rfl⟩
theorem iX7_tick_157 : am_jp 85 157 (.goto (-45)) (-45) 112 160 := ⟨by decide +kernel, by decide, rfl⟩
theorem iX7_tick_160 : am_at 85 160 (.iload_n 1) 1 161 := ⟨by decide +kernel, rfl⟩
theorem iX7_tick_161 : am_at 85 161 (.ireturn) 1 162 := ⟨by decide +kernel, rfl⟩
theorem iX7_fail_0 : am_at 86 0 (.aload_n 0) 1 1 := ⟨by decide +kernel, rfl⟩
theorem iX7_fail_1 : am_at 86 1 (.getfield 78) 3 4 := ⟨by decide +kernel, rfl⟩
theorem fX7_fail_78 : am_fld 86 78 7 27 2 := ⟨by decide, rfl, wd_693⟩
theorem iX7_fail_4 : am_at 86 4 (.iload_n 1) 1 5 := ⟨by decide +kernel, rfl⟩
theorem iX7_fail_5 : am_at 86 5 (.iconst 2) 1 6 := ⟨by decide +kernel, rfl⟩
theorem iX7_fail_6 : am_at 86 6 (.iastore) 1 7 := ⟨by decide +kernel, rfl⟩
theorem iX7_fail_7 : am_at 86 7 (.aload_n 0) 1 8 := ⟨by decide +kernel, rfl⟩
theorem iX7_fail_8 : am_at 86 8 (.getfield 111) 3 11 := ⟨by decide +kernel, rfl⟩
theorem fX7_fail_111 : am_fld 86 111 7 38 2 := ⟨by decide, rfl, wd_704⟩
theorem iX7_fail_11 : am_at 86 11 (.iload_n 1) 1 12 := ⟨by decide +kernel, rfl⟩
theorem iX7_fail_12 : am_at 86 12 (.aload_n 0) 1 13 := ⟨by decide +kernel, rfl⟩
theorem iX7_fail_13 : am_at 86 13 (.getfield 201) 3 16 := ⟨by decide +kernel, rfl⟩
theorem fX7_fail_201 : am_fld 86 201 7 3 0 := ⟨by decide, rfl, wd_669⟩
theorem iX7_fail_16 : am_at 86 16 (.iastore) 1 17 := ⟨by decide +kernel, rfl⟩
theorem iX7_fail_17 : am_at 86 17 (.return_) 1 18 := ⟨by decide +kernel, rfl⟩
end
section
theorem iX7_ticks_0 : am_at 87 0 (.aload_n 0) 1 1 := ⟨by decide +kernel, rfl⟩
theorem iX7_ticks_1 : am_at 87 1 (.iload_n 1) 1 2 := ⟨by decide +kernel, rfl⟩
theorem iX7_ticks_2 : am_at 87 2 (.i2l) 1 3 := ⟨by decide +kernel, rfl⟩
theorem iX7_ticks_3 : am_at 87 3 (.lconst 0) 1 4 := ⟨by decide +kernel, rfl⟩
theorem iX7_ticks_4 : am_at 87 4 (.ldc2_w 210) 3 7 := ⟨by decide +kernel, rfl⟩
theorem iX7_ticks_7 : am_at 87 7 (.invokestatic 148) 3 10 := ⟨by decide +kernel, rfl⟩
theorem cX7_ticks_148 : am_sS 87 148 69 := ⟨wd_797, wd_798, wd_6⟩
theorem iX7_ticks_10 : am_jp 87 10 (.ifCond .eq 7) 7 17 13 := ⟨by decide +kernel, by decide, rfl⟩
theorem iX7_ticks_13 : am_at 87 13 (.iconst 0) 1 14 := ⟨by decide +kernel, rfl⟩
theorem iX7_ticks_14 : am_jp 87 14 (.goto 4) 4 18 17 := ⟨by decide +kernel, by decide, rfl⟩
theorem iX7_ticks_17 : am_at 87 17 (.iconst 1) 1 18 := ⟨by decide +kernel, rfl⟩
theorem iX7_ticks_18 : am_at 87 18 (.putfield 121) 3 21 := ⟨by decide +kernel, rfl⟩
theorem fX7_ticks_121 : am_fld 87 121 7 2 0 := ⟨by decide, rfl, wd_668⟩
theorem iX7_ticks_21 : am_at 87 21 (.iconst 0) 1 22 := ⟨by decide +kernel, rfl⟩
theorem iX7_ticks_22 : am_at 87 22 (.istore_n 2) 1 23 := ⟨by decide +kernel, rfl⟩
theorem iX7_ticks_23 : am_at 87 23 (.iconst 0) 1 24 := ⟨by decide +kernel, rfl⟩
theorem iX7_ticks_24 : am_at 87 24 (.istore_n 3) 1 25 := ⟨by decide +kernel, rfl⟩
theorem iX7_ticks_25 : am_at 87 25 (.iload_n 3) 1 26 := ⟨by decide +kernel, rfl⟩
theorem iX7_ticks_26 : am_at 87 26 (.iload_n 1) 1 27 := ⟨by decide +kernel, rfl⟩
theorem iX7_ticks_27 : am_jp 87 27 (.if_icmp .ge 23) 23 50 30 := ⟨by decide +kernel, by decide, rfl⟩
theorem iX7_ticks_30 : am_at 87 30 (.aload_n 0) 1 31 := ⟨by decide +kernel, rfl⟩
theorem iX7_ticks_31 : am_at 87 31 (.getfield 121) 3 34 := ⟨by decide +kernel, rfl⟩
theorem iX7_ticks_34 : am_jp 87 34 (.ifCond .ne 16) 16 50 37 := ⟨by decide +kernel, by decide, rfl⟩
theorem iX7_ticks_37 : am_at 87 37 (.iload_n 2) 1 38 := ⟨by decide +kernel, rfl⟩
theorem iX7_ticks_38 : am_at 87 38 (.aload_n 0) 1 39 := ⟨by decide +kernel, rfl⟩
theorem iX7_ticks_39 : am_at 87 39 (.invokevirtual 212) 3 42 := ⟨by decide +kernel, rfl⟩
theorem cX7_ticks_212 : am_sV 87 212 85 7 := ⟨wd_884, wd_886, wp_24, rfl, by decide⟩
theorem iX7_ticks_42 : am_at 87 42 (.iadd) 1 43 := ⟨by decide +kernel, rfl⟩
theorem iX7_ticks_43 : am_at 87 43 (.istore_n 2) 1 44 := ⟨by decide +kernel, rfl⟩
theorem iX7_ticks_44 : am_at 87 44 (.iinc 3 1) 3 47 := ⟨by decide +kernel, rfl⟩
theorem iX7_ticks_47 : am_jp 87 47 (.goto (-22)) (-22) 25 50 := ⟨by decide +kernel, by decide, rfl⟩
theorem iX7_ticks_50 : am_at 87 50 (.iload_n 2) 1 51 := ⟨by decide +kernel, rfl⟩
theorem iX7_ticks_51 : am_at 87 51 (.ireturn) 1 52 := ⟨by decide +kernel, rfl⟩
theorem iX7_up_0 : am_at 88 0 (.aload_n 0) 1 1 := ⟨by decide +kernel, rfl⟩
theorem iX7_up_1 : am_at 88 1 (.aload_n 0) 1 2 := ⟨by decide +kernel, rfl⟩
theorem iX7_up_2 : am_at 88 2 (.iload_n 1) 1 3 := ⟨by decide +kernel, rfl⟩
theorem iX7_up_3 : am_at 88 3 (.invokevirtual 162) 3 6 := ⟨by decide +kernel, rfl⟩
theorem cX7_up_162 : am_sV 88 162 75 7 := ⟨wd_842, wd_844, wp_20, rfl, by decide⟩
theorem iX7_up_6 : am_jp 88 6 (.ifCond .eq 7) 7 13 9 := ⟨by decide +kernel, by decide, rfl⟩
theorem iX7_up_9 : am_at 88 9 (.iconst 0) 1 10 := ⟨by decide +kernel, rfl⟩
theorem iX7_up_10 : am_jp 88 10 (.goto 4) 4 14 13 := ⟨by decide +kernel, by decide, rfl⟩
theorem iX7_up_13 : am_at 88 13 (.iconst 1) 1 14 := ⟨by decide +kernel, rfl⟩
theorem iX7_up_14 : am_at 88 14 (.putfield 121) 3 17 := ⟨by decide +kernel, rfl⟩
theorem fX7_up_121 : am_fld 88 121 7 2 0 := ⟨by decide, rfl, wd_668⟩
theorem iX7_up_17 : am_at 88 17 (.aload_n 0) 1 18 := ⟨by decide +kernel, rfl⟩
theorem iX7_up_18 : am_at 88 18 (.getfield 121) 3 21 := ⟨by decide +kernel, rfl⟩
theorem iX7_up_21 : am_jp 88 21 (.ifCond .le 5) 5 26 24 := ⟨by decide +kernel, by decide, rfl⟩
theorem iX7_up_24 : am_at 88 24 (.iconst 0) 1 25 := ⟨by decide +kernel, rfl⟩
theorem iX7_up_25 : am_at 88 25 (.ireturn) 1 26 := ⟨by decide +kernel, rfl⟩
theorem iX7_up_26 : am_at 88 26 (.aload_n 0) 1 27 := ⟨by decide +kernel, rfl⟩
theorem iX7_up_27 : am_at 88 27 (.getfield 62) 3 30 := ⟨by decide +kernel, rfl⟩
theorem fX7_up_62 : am_fld 88 62 7 21 2 := ⟨by decide, rfl, wd_687⟩
theorem iX7_up_30 : am_at 88 30 (.iload_n 1) 1 31 := ⟨by decide +kernel, rfl⟩
theorem iX7_up_31 : am_at 88 31 (.baload) 1 32 := ⟨by decide +kernel, rfl⟩
theorem iX7_up_32 : am_at 88 32 (.istore_n 3) 1 33 := ⟨by decide +kernel, rfl⟩
theorem iX7_up_33 : am_at 88 33 (.aload_n 0) 1 34 := ⟨by decide +kernel, rfl⟩
theorem iX7_up_34 : am_at 88 34 (.getfield 62) 3 37 := ⟨by decide +kernel, rfl⟩
theorem iX7_up_37 : am_at 88 37 (.iload_n 1) 1 38 := ⟨by decide +kernel, rfl⟩
theorem iX7_up_38 : am_at 88 38 (.iload_n 2) 1 39 := ⟨by decide +kernel, rfl⟩
theorem iX7_up_39 : am_at 88 39 (.bastore) 1 40 := ⟨by decide +kernel, rfl⟩
theorem iX7_up_40 : am_at 88 40 (.iload_n 2) 1 41 := ⟨by decide +kernel, rfl⟩
theorem iX7_up_41 : am_jp 88 41 (.ifCond .eq 12) 12 53 44 := ⟨by decide +kernel, by decide, rfl⟩
theorem iX7_up_44 : am_at 88 44 (.iload_n 3) 1 45 := ⟨by decide +kernel, rfl⟩
theorem iX7_up_45 : am_jp 88 45 (.ifCond .ne 8) 8 53 48 := ⟨by decide +kernel, by decide, rfl⟩
theorem iX7_up_48 : am_at 88 48 (.aload_n 0) 1 49 := ⟨by decide +kernel, rfl⟩
theorem iX7_up_49 : am_at 88 49 (.iload_n 1) 1 50 := ⟨by decide +kernel, rfl⟩
theorem iX7_up_50 : am_at 88 50 (.invokevirtual 158) 3 53 := ⟨by decide +kernel, rfl⟩
theorem cX7_up_158 : am_sV 88 158 99 7 := ⟨wd_801, wd_803, wp_14, rfl, by decide⟩
theorem iX7_up_53 : am_at 88 53 (.iload_n 3) 1 54 := ⟨by decide +kernel, rfl⟩
theorem iX7_up_54 : am_at 88 54 (.ireturn) 1 55 := ⟨by decide +kernel, rfl⟩
theorem iX7_copy_0 : am_at 89 0 (.iconst 0) 1 1 := ⟨by decide +kernel, rfl⟩
theorem iX7_copy_1 : am_at 89 1 (.istore_n 3) 1 2 := ⟨by decide +kernel, rfl⟩
theorem iX7_copy_2 : am_at 89 2 (.iload_n 3) 1 3 := ⟨by decide +kernel, rfl⟩
theorem iX7_copy_3 : am_at 89 3 (.bipush 30) 2 5 := ⟨by decide +kernel, rfl⟩
theorem iX7_copy_5 : am_jp 89 5 (.if_icmp .ge 97) 97 102 8 := ⟨by decide +kernel, by decide, rfl⟩
theorem iX7_copy_8 : am_at 89 8 (.aload_n 0) 1 9 := ⟨by decide +kernel, rfl⟩
theorem iX7_copy_9 : am_at 89 9 (.getfield 31) 3 12 := ⟨by decide +kernel, rfl⟩
theorem fX7_copy_31 : am_fld 89 31 7 11 2 := ⟨by decide, rfl, wd_677⟩
theorem iX7_copy_12 : am_at 89 12 (.bipush 30) 2 14 := ⟨by decide +kernel, rfl⟩
theorem iX7_copy_14 : am_at 89 14 (.iload_n 2) 1 15 := ⟨by decide +kernel, rfl⟩
theorem iX7_copy_15 : am_at 89 15 (.imul) 1 16 := ⟨by decide +kernel, rfl⟩
theorem iX7_copy_16 : am_at 89 16 (.iload_n 3) 1 17 := ⟨by decide +kernel, rfl⟩
theorem iX7_copy_17 : am_at 89 17 (.iadd) 1 18 := ⟨by decide +kernel, rfl⟩
theorem iX7_copy_18 : am_at 89 18 (.aload_n 0) 1 19 := ⟨by decide +kernel, rfl⟩
theorem iX7_copy_19 : am_at 89 19 (.getfield 31) 3 22 := ⟨by decide +kernel, rfl⟩
theorem iX7_copy_22 : am_at 89 22 (.bipush 30) 2 24 := ⟨by decide +kernel, rfl⟩
theorem iX7_copy_24 : am_at 89 24 (.iload_n 1) 1 25 := ⟨by decide +kernel, rfl⟩
theorem iX7_copy_25 : am_at 89 25 (.imul) 1 26 := ⟨by decide +kernel, rfl⟩
theorem iX7_copy_26 : am_at 89 26 (.iload_n 3) 1 27 := ⟨by decide +kernel, rfl⟩
theorem iX7_copy_27 : am_at 89 27 (.iadd) 1 28 := ⟨by decide +kernel, rfl⟩
theorem iX7_copy_28 : am_at 89 28 (.iaload) 1 29 := ⟨by decide +kernel, rfl⟩
theorem iX7_copy_29 : am_at 89 29 (.iastore) 1 30 := ⟨by decide +kernel, rfl⟩
theorem iX7_copy_30 : am_at 89 30 (.aload_n 0) 1 31 := ⟨by decide +kernel, rfl⟩
theorem iX7_copy_31 : am_at 89 31 (.getfield 34) 3 34 := ⟨by decide +kernel, rfl⟩
theorem fX7_copy_34 : am_fld 89 34 7 12 2 := ⟨by decide, rfl, wd_678⟩
theorem iX7_copy_34 : am_at 89 34 (.bipush 30) 2 36 := ⟨by decide +kernel, rfl⟩
theorem iX7_copy_36 : am_at 89 36 (.iload_n 2) 1 37 := ⟨by decide +kernel, rfl⟩
theorem iX7_copy_37 : am_at 89 37 (.imul) 1 38 := ⟨by decide +kernel, rfl⟩
theorem iX7_copy_38 : am_at 89 38 (.iload_n 3) 1 39 := ⟨by decide +kernel, rfl⟩
theorem iX7_copy_39 : am_at 89 39 (.iadd) 1 40 := ⟨by decide +kernel, rfl⟩
theorem iX7_copy_40 : am_at 89 40 (.aload_n 0) 1 41 := ⟨by decide +kernel, rfl⟩
theorem iX7_copy_41 : am_at 89 41 (.getfield 34) 3 44 := ⟨by decide +kernel, rfl⟩
theorem iX7_copy_44 : am_at 89 44 (.bipush 30) 2 46 := ⟨by decide +kernel, rfl⟩
theorem iX7_copy_46 : am_at 89 46 (.iload_n 1) 1 47 := ⟨by decide +kernel, rfl⟩
theorem iX7_copy_47 : am_at 89 47 (.imul) 1 48 := ⟨by decide +kernel, rfl⟩
theorem iX7_copy_48 : am_at 89 48 (.iload_n 3) 1 49 := ⟨by decide +kernel, rfl⟩
theorem iX7_copy_49 : am_at 89 49 (.iadd) 1 50 := ⟨by decide +kernel, rfl⟩
theorem iX7_copy_50 : am_at 89 50 (.iaload) 1 51 := ⟨by decide +kernel, rfl⟩
theorem iX7_copy_51 : am_at 89 51 (.iastore) 1 52 := ⟨by decide +kernel, rfl⟩
theorem iX7_copy_52 : am_at 89 52 (.aload_n 0) 1 53 := ⟨by decide +kernel, rfl⟩
theorem iX7_copy_53 : am_at 89 53 (.getfield 37) 3 56 := ⟨by decide +kernel, rfl⟩
theorem fX7_copy_37 : am_fld 89 37 7 13 2 := ⟨by decide, rfl, wd_679⟩
theorem iX7_copy_56 : am_at 89 56 (.bipush 30) 2 58 := ⟨by decide +kernel, rfl⟩
theorem iX7_copy_58 : am_at 89 58 (.iload_n 2) 1 59 := ⟨by decide +kernel, rfl⟩
theorem iX7_copy_59 : am_at 89 59 (.imul) 1 60 := ⟨by decide +kernel, rfl⟩
theorem iX7_copy_60 : am_at 89 60 (.iload_n 3) 1 61 := ⟨by decide +kernel, rfl⟩
theorem iX7_copy_61 : am_at 89 61 (.iadd) 1 62 := ⟨by decide +kernel, rfl⟩
theorem iX7_copy_62 : am_at 89 62 (.aload_n 0) 1 63 := ⟨by decide +kernel, rfl⟩
theorem iX7_copy_63 : am_at 89 63 (.getfield 37) 3 66 := ⟨by decide +kernel, rfl⟩
theorem iX7_copy_66 : am_at 89 66 (.bipush 30) 2 68 := ⟨by decide +kernel, rfl⟩
theorem iX7_copy_68 : am_at 89 68 (.iload_n 1) 1 69 := ⟨by decide +kernel, rfl⟩
theorem iX7_copy_69 : am_at 89 69 (.imul) 1 70 := ⟨by decide +kernel, rfl⟩
theorem iX7_copy_70 : am_at 89 70 (.iload_n 3) 1 71 := ⟨by decide +kernel, rfl⟩
theorem iX7_copy_71 : am_at 89 71 (.iadd) 1 72 := ⟨by decide +kernel, rfl⟩
theorem iX7_copy_72 : am_at 89 72 (.iaload) 1 73 := ⟨by decide +kernel, rfl⟩
theorem iX7_copy_73 : am_at 89 73 (.iastore) 1 74 := ⟨by decide +kernel, rfl⟩
theorem iX7_copy_74 : am_at 89 74 (.aload_n 0) 1 75 := ⟨by decide +kernel, rfl⟩
theorem iX7_copy_75 : am_at 89 75 (.getfield 40) 3 78 := ⟨by decide +kernel, rfl⟩
theorem fX7_copy_40 : am_fld 89 40 7 14 2 := ⟨by decide, rfl, wd_680⟩
theorem iX7_copy_78 : am_at 89 78 (.bipush 30) 2 80 := ⟨by decide +kernel, rfl⟩
theorem iX7_copy_80 : am_at 89 80 (.iload_n 2) 1 81 := ⟨by decide +kernel, rfl⟩
theorem iX7_copy_81 : am_at 89 81 (.imul) 1 82 := ⟨by decide +kernel, rfl⟩
theorem iX7_copy_82 : am_at 89 82 (.iload_n 3) 1 83 := ⟨by decide +kernel, rfl⟩
theorem iX7_copy_83 : am_at 89 83 (.iadd) 1 84 := ⟨by decide +kernel, rfl⟩
theorem iX7_copy_84 : am_at 89 84 (.aload_n 0) 1 85 := ⟨by decide +kernel, rfl⟩
theorem iX7_copy_85 : am_at 89 85 (.getfield 40) 3 88 := ⟨by decide +kernel, rfl⟩
theorem iX7_copy_88 : am_at 89 88 (.bipush 30) 2 90 := ⟨by decide +kernel, rfl⟩
theorem iX7_copy_90 : am_at 89 90 (.iload_n 1) 1 91 := ⟨by decide +kernel, rfl⟩
theorem iX7_copy_91 : am_at 89 91 (.imul) 1 92 := ⟨by decide +kernel, rfl⟩
theorem iX7_copy_92 : am_at 89 92 (.iload_n 3) 1 93 := ⟨by decide +kernel, rfl⟩
theorem iX7_copy_93 : am_at 89 93 (.iadd) 1 94 := ⟨by decide +kernel, rfl⟩
theorem iX7_copy_94 : am_at 89 94 (.iaload) 1 95 := ⟨by decide +kernel, rfl⟩
theorem iX7_copy_95 : am_at 89 95 (.iastore) 1 96 := ⟨by decide +kernel, rfl⟩
theorem iX7_copy_96 : am_at 89 96 (.iinc 3 1) 3 99 := ⟨by decide +kernel, rfl⟩
theorem iX7_copy_99 : am_jp 89 99 (.goto (-97)) (-97) 2 102 := ⟨by decide +kernel, by decide, rfl⟩
theorem iX7_copy_102 : am_at 89 102 (.iconst 0) 1 103 := ⟨by decide +kernel, rfl⟩
theorem iX7_copy_103 : am_at 89 103 (.istore_n 3) 1 104 := ⟨by decide +kernel, rfl⟩
theorem iX7_copy_104 : am_at 89 104 (.iload_n 3) 1 105 := ⟨by decide +kernel, rfl⟩
theorem iX7_copy_105 : am_at 89 105 (.sipush 300) 3 108 := ⟨by decide +kernel, rfl⟩
theorem iX7_copy_108 : am_jp 89 108 (.if_icmp .ge 33) 33 141 111 := ⟨by decide +kernel, by decide, rfl⟩
theorem iX7_copy_111 : am_at 89 111 (.aload_n 0) 1 112 := ⟨by decide +kernel, rfl⟩
theorem iX7_copy_112 : am_at 89 112 (.getfield 43) 3 115 := ⟨by decide +kernel, rfl⟩
theorem fX7_copy_43 : am_fld 89 43 7 15 2 := ⟨by decide, rfl, wd_681⟩
theorem iX7_copy_115 : am_at 89 115 (.sipush 300) 3 118 := ⟨by decide +kernel, rfl⟩
theorem iX7_copy_118 : am_at 89 118 (.iload_n 2) 1 119 := ⟨by decide +kernel, rfl⟩
theorem iX7_copy_119 : am_at 89 119 (.imul) 1 120 := ⟨by decide +kernel, rfl⟩
theorem iX7_copy_120 : am_at 89 120 (.iload_n 3) 1 121 := ⟨by decide +kernel, rfl⟩
theorem iX7_copy_121 : am_at 89 121 (.iadd) 1 122 := ⟨by decide +kernel, rfl⟩
theorem iX7_copy_122 : am_at 89 122 (.aload_n 0) 1 123 := ⟨by decide +kernel, rfl⟩
theorem iX7_copy_123 : am_at 89 123 (.getfield 43) 3 126 := ⟨by decide +kernel, rfl⟩
theorem iX7_copy_126 : am_at 89 126 (.sipush 300) 3 129 := ⟨by decide +kernel, rfl⟩
theorem iX7_copy_129 : am_at 89 129 (.iload_n 1) 1 130 := ⟨by decide +kernel, rfl⟩
theorem iX7_copy_130 : am_at 89 130 (.imul) 1 131 := ⟨by decide +kernel, rfl⟩
theorem iX7_copy_131 : am_at 89 131 (.iload_n 3) 1 132 := ⟨by decide +kernel, rfl⟩
theorem iX7_copy_132 : am_at 89 132 (.iadd) 1 133 := ⟨by decide +kernel, rfl⟩
theorem iX7_copy_133 : am_at 89 133 (.iaload) 1 134 := ⟨by decide +kernel, rfl⟩
theorem iX7_copy_134 : am_at 89 134 (.iastore) 1 135 := ⟨by decide +kernel, rfl⟩
theorem iX7_copy_135 : am_at 89 135 (.iinc 3 1) 3 138 := ⟨by decide +kernel, rfl⟩
theorem iX7_copy_138 : am_jp 89 138 (.goto (-34)) (-34) 104 141 := ⟨by decide +kernel, by decide, rfl⟩
theorem iX7_copy_141 : am_at 89 141 (.iconst 0) 1 142 := ⟨by decide +kernel, rfl⟩
theorem iX7_copy_142 : am_at 89 142 (.istore_n 3) 1 143 := ⟨by decide +kernel, rfl⟩
theorem iX7_copy_143 : am_at 89 143 (.iload_n 3) 1 144 := ⟨by decide +kernel, rfl⟩
theorem iX7_copy_144 : am_at 89 144 (.bipush 10) 2 146 := ⟨by decide +kernel, rfl⟩
theorem iX7_copy_146 : am_jp 89 146 (.if_icmp .ge 53) 53 199 149 := ⟨by decide +kernel, by decide, rfl⟩
theorem iX7_copy_149 : am_at 89 149 (.aload_n 0) 1 150 := ⟨by decide +kernel, rfl⟩
theorem iX7_copy_150 : am_at 89 150 (.getfield 46) 3 153 := ⟨by decide +kernel, rfl⟩
theorem fX7_copy_46 : am_fld 89 46 7 16 2 := ⟨by decide, rfl, wd_682⟩
theorem iX7_copy_153 : am_at 89 153 (.bipush 10) 2 155 := ⟨by decide +kernel, rfl⟩
theorem iX7_copy_155 : am_at 89 155 (.iload_n 2) 1 156 := ⟨by decide +kernel, rfl⟩
theorem iX7_copy_156 : am_at 89 156 (.imul) 1 157 := ⟨by decide +kernel, rfl⟩
theorem iX7_copy_157 : am_at 89 157 (.iload_n 3) 1 158 := ⟨by decide +kernel, rfl⟩
theorem iX7_copy_158 : am_at 89 158 (.iadd) 1 159 := ⟨by decide +kernel, rfl⟩
theorem iX7_copy_159 : am_at 89 159 (.aload_n 0) 1 160 := ⟨by decide +kernel, rfl⟩
theorem iX7_copy_160 : am_at 89 160 (.getfield 46) 3 163 := ⟨by decide +kernel, rfl⟩
theorem iX7_copy_163 : am_at 89 163 (.bipush 10) 2 165 := ⟨by decide +kernel, rfl⟩
theorem iX7_copy_165 : am_at 89 165 (.iload_n 1) 1 166 := ⟨by decide +kernel, rfl⟩
theorem iX7_copy_166 : am_at 89 166 (.imul) 1 167 := ⟨by decide +kernel, rfl⟩
theorem iX7_copy_167 : am_at 89 167 (.iload_n 3) 1 168 := ⟨by decide +kernel, rfl⟩
theorem iX7_copy_168 : am_at 89 168 (.iadd) 1 169 := ⟨by decide +kernel, rfl⟩
theorem iX7_copy_169 : am_at 89 169 (.laload) 1 170 := ⟨by decide +kernel, rfl⟩
theorem iX7_copy_170 : am_at 89 170 (.lastore) 1 171 := ⟨by decide +kernel, rfl⟩
theorem iX7_copy_171 : am_at 89 171 (.aload_n 0) 1 172 := ⟨by decide +kernel, rfl⟩
theorem iX7_copy_172 : am_at 89 172 (.getfield 50) 3 175 := ⟨by decide +kernel, rfl⟩
theorem fX7_copy_50 : am_fld 89 50 7 17 2 := ⟨by decide, rfl, wd_683⟩
theorem iX7_copy_175 : am_at 89 175 (.bipush 10) 2 177 := ⟨by decide +kernel, rfl⟩
theorem iX7_copy_177 : am_at 89 177 (.iload_n 2) 1 178 := ⟨by decide +kernel, rfl⟩
theorem iX7_copy_178 : am_at 89 178 (.imul) 1 179 := ⟨by decide +kernel, rfl⟩
theorem iX7_copy_179 : am_at 89 179 (.iload_n 3) 1 180 := ⟨by decide +kernel, rfl⟩
theorem iX7_copy_180 : am_at 89 180 (.iadd) 1 181 := ⟨by decide +kernel, rfl⟩
theorem iX7_copy_181 : am_at 89 181 (.aload_n 0) 1 182 := ⟨by decide +kernel, rfl⟩
theorem iX7_copy_182 : am_at 89 182 (.getfield 50) 3 185 := ⟨by decide +kernel, rfl⟩
theorem iX7_copy_185 : am_at 89 185 (.bipush 10) 2 187 := ⟨by decide +kernel, rfl⟩
theorem iX7_copy_187 : am_at 89 187 (.iload_n 1) 1 188 := ⟨by decide +kernel, rfl⟩
theorem iX7_copy_188 : am_at 89 188 (.imul) 1 189 := ⟨by decide +kernel, rfl⟩
theorem iX7_copy_189 : am_at 89 189 (.iload_n 3) 1 190 := ⟨by decide +kernel, rfl⟩
theorem iX7_copy_190 : am_at 89 190 (.iadd) 1 191 := ⟨by decide +kernel, rfl⟩
theorem iX7_copy_191 : am_at 89 191 (.iaload) 1 192 := ⟨by decide +kernel, rfl⟩
theorem iX7_copy_192 : am_at 89 192 (.iastore) 1 193 := ⟨by decide +kernel, rfl⟩
theorem iX7_copy_193 : am_at 89 193 (.iinc 3 1) 3 196 := ⟨by decide +kernel, rfl⟩
theorem iX7_copy_196 : am_jp 89 196 (.goto (-53)) (-53) 143 199 := ⟨by decide +kernel, by decide, rfl⟩
theorem iX7_copy_199 : am_at 89 199 (.iconst 0) 1 200 := ⟨by decide +kernel, rfl⟩
theorem iX7_copy_200 : am_at 89 200 (.istore_n 3) 1 201 := ⟨by decide +kernel, rfl⟩
theorem iX7_copy_201 : am_at 89 201 (.iload_n 3) 1 202 := ⟨by decide +kernel, rfl⟩
theorem iX7_copy_202 : am_at 89 202 (.iconst 3) 1 203 := ⟨by decide +kernel, rfl⟩
theorem iX7_copy_203 : am_jp 89 203 (.if_icmp .ge 29) 29 232 206 := ⟨by decide +kernel, by decide, rfl⟩
theorem iX7_copy_206 : am_at 89 206 (.aload_n 0) 1 207 := ⟨by decide +kernel, rfl⟩
theorem iX7_copy_207 : am_at 89 207 (.getfield 53) 3 210 := ⟨by decide +kernel, rfl⟩
theorem fX7_copy_53 : am_fld 89 53 7 18 2 := ⟨by decide, rfl, wd_684⟩
theorem iX7_copy_210 : am_at 89 210 (.iconst 3) 1 211 := ⟨by decide +kernel, rfl⟩
theorem iX7_copy_211 : am_at 89 211 (.iload_n 2) 1 212 := ⟨by decide +kernel, rfl⟩
theorem iX7_copy_212 : am_at 89 212 (.imul) 1 213 := ⟨by decide +kernel, rfl⟩
theorem iX7_copy_213 : am_at 89 213 (.iload_n 3) 1 214 := ⟨by decide +kernel, rfl⟩
theorem iX7_copy_214 : am_at 89 214 (.iadd) 1 215 := ⟨by decide +kernel, rfl⟩
theorem iX7_copy_215 : am_at 89 215 (.aload_n 0) 1 216 := ⟨by decide +kernel, rfl⟩
theorem iX7_copy_216 : am_at 89 216 (.getfield 53) 3 219 := ⟨by decide +kernel, rfl⟩
theorem iX7_copy_219 : am_at 89 219 (.iconst 3) 1 220 := ⟨by decide +kernel, rfl⟩
theorem iX7_copy_220 : am_at 89 220 (.iload_n 1) 1 221 := ⟨by decide +kernel, rfl⟩
theorem iX7_copy_221 : am_at 89 221 (.imul) 1 222 := ⟨by decide +kernel, rfl⟩
theorem iX7_copy_222 : am_at 89 222 (.iload_n 3) 1 223 := ⟨by decide +kernel, rfl⟩
theorem iX7_copy_223 : am_at 89 223 (.iadd) 1 224 := ⟨by decide +kernel, rfl⟩
theorem iX7_copy_224 : am_at 89 224 (.iaload) 1 225 := ⟨by decide +kernel, rfl⟩
theorem iX7_copy_225 : am_at 89 225 (.iastore) 1 226 := ⟨by decide +kernel, rfl⟩
theorem iX7_copy_226 : am_at 89 226 (.iinc 3 1) 3 229 := ⟨by decide +kernel, rfl⟩
theorem iX7_copy_229 : am_jp 89 229 (.goto (-28)) (-28) 201 232 := ⟨by decide +kernel, by decide, rfl⟩
theorem iX7_copy_232 : am_at 89 232 (.return_) 1 233 := ⟨by decide +kernel, rfl⟩
theorem iX7_sum_0 : am_at 90 0 (.aload_n 0) 1 1 := ⟨by decide +kernel, rfl⟩
theorem iX7_sum_1 : am_at 90 1 (.getfield 53) 3 4 := ⟨by decide +kernel, rfl⟩
theorem fX7_sum_53 : am_fld 90 53 7 18 2 := ⟨by decide, rfl, wd_684⟩
theorem iX7_sum_4 : am_at 90 4 (.iconst 3) 1 5 := ⟨by decide +kernel, rfl⟩
theorem iX7_sum_5 : am_at 90 5 (.iload_n 1) 1 6 := ⟨by decide +kernel, rfl⟩
theorem iX7_sum_6 : am_at 90 6 (.imul) 1 7 := ⟨by decide +kernel, rfl⟩
theorem iX7_sum_7 : am_at 90 7 (.iaload) 1 8 := ⟨by decide +kernel, rfl⟩
theorem iX7_sum_8 : am_at 90 8 (.aload_n 0) 1 9 := ⟨by decide +kernel, rfl⟩
theorem iX7_sum_9 : am_at 90 9 (.getfield 53) 3 12 := ⟨by decide +kernel, rfl⟩
theorem iX7_sum_12 : am_at 90 12 (.iconst 3) 1 13 := ⟨by decide +kernel, rfl⟩
theorem iX7_sum_13 : am_at 90 13 (.iload_n 1) 1 14 := ⟨by decide +kernel, rfl⟩
theorem iX7_sum_14 : am_at 90 14 (.imul) 1 15 := ⟨by decide +kernel, rfl⟩
theorem iX7_sum_15 : am_at 90 15 (.iconst 1) 1 16 := ⟨by decide +kernel, rfl⟩
theorem iX7_sum_16 : am_at 90 16 (.iadd) 1 17 := ⟨by decide +kernel, rfl⟩
theorem iX7_sum_17 : am_at 90 17 (.iaload) 1 18 := ⟨by decide +kernel, rfl⟩
theorem iX7_sum_18 : am_at 90 18 (.iadd) 1 19 := ⟨by decide +kernel, rfl⟩
theorem iX7_sum_19 : am_at 90 19 (.aload_n 0) 1 20 := ⟨by decide +kernel, rfl⟩
theorem iX7_sum_20 : am_at 90 20 (.getfield 53) 3 23 := ⟨by decide +kernel, rfl⟩
theorem iX7_sum_23 : am_at 90 23 (.iconst 3) 1 24 := ⟨by decide +kernel, rfl⟩
theorem iX7_sum_24 : am_at 90 24 (.iload_n 1) 1 25 := ⟨by decide +kernel, rfl⟩
theorem iX7_sum_25 : am_at 90 25 (.imul) 1 26 := ⟨by decide +kernel, rfl⟩
theorem iX7_sum_26 : am_at 90 26 (.iconst 2) 1 27 := ⟨by decide +kernel, rfl⟩
theorem iX7_sum_27 : am_at 90 27 (.iadd) 1 28 := ⟨by decide +kernel, rfl⟩
theorem iX7_sum_28 : am_at 90 28 (.iaload) 1 29 := ⟨by decide +kernel, rfl⟩
theorem iX7_sum_29 : am_at 90 29 (.iadd) 1 30 := ⟨by decide +kernel, rfl⟩
theorem iX7_sum_30 : am_at 90 30 (.ireturn) 1 31 := ⟨by decide +kernel, rfl⟩
theorem iX7_snapshot_0 : am_at 91 0 (.aload_n 0) 1 1 := ⟨by decide +kernel, rfl⟩
theorem iX7_snapshot_1 : am_at 91 1 (.aload_n 0) 1 2 := ⟨by decide +kernel, rfl⟩
theorem iX7_snapshot_2 : am_at 91 2 (.iload_n 1) 1 3 := ⟨by decide +kernel, rfl⟩
theorem iX7_snapshot_3 : am_at 91 3 (.invokevirtual 162) 3 6 := ⟨by decide +kernel, rfl⟩
theorem cX7_snapshot_162 : am_sV 91 162 75 7 := ⟨wd_842, wd_844, wp_20, rfl, by decide⟩
theorem iX7_snapshot_6 : am_jp 91 6 (.ifCond .eq 7) 7 13 9 := ⟨by decide +kernel, by decide, rfl⟩
theorem iX7_snapshot_9 : am_at 91 9 (.iconst 0) 1 10 := ⟨by decide +kernel, rfl⟩
theorem iX7_snapshot_10 : am_jp 91 10 (.goto 4) 4 14 13 := ⟨by decide +kernel, by decide, rfl⟩
theorem iX7_snapshot_13 : am_at 91 13 (.iconst 1) 1 14 := ⟨by decide +kernel, rfl⟩
theorem iX7_snapshot_14 : am_at 91 14 (.putfield 121) 3 17 := ⟨by decide +kernel, rfl⟩
theorem fX7_snapshot_121 : am_fld 91 121 7 2 0 := ⟨by decide, rfl, wd_668⟩
theorem iX7_snapshot_17 : am_at 91 17 (.aload_n 0) 1 18 := ⟨by decide +kernel, rfl⟩
theorem iX7_snapshot_18 : am_at 91 18 (.getfield 121) 3 21 := ⟨by decide +kernel, rfl⟩
theorem iX7_snapshot_21 : am_jp 91 21 (.ifCond .le 5) 5 26 24 := ⟨by decide +kernel, by decide, rfl⟩
theorem iX7_snapshot_24 : am_at 91 24 (.iconst 0) 1 25 := ⟨by decide +kernel, rfl⟩
theorem iX7_snapshot_25 : am_at 91 25 (.ireturn) 1 26 := ⟨by decide +kernel, rfl⟩
theorem iX7_snapshot_26 : am_at 91 26 (.aload_n 0) 1 27 := ⟨by decide +kernel, rfl⟩
theorem iX7_snapshot_27 : am_at 91 27 (.iload_n 1) 1 28 := ⟨by decide +kernel, rfl⟩
theorem iX7_snapshot_28 : am_at 91 28 (.iconst 4) 1 29 := ⟨by decide +kernel, rfl⟩
theorem iX7_snapshot_29 : am_at 91 29 (.iload_n 1) 1 30 := ⟨by decide +kernel, rfl⟩
theorem iX7_snapshot_30 : am_at 91 30 (.iadd) 1 31 := ⟨by decide +kernel, rfl⟩
theorem iX7_snapshot_31 : am_at 91 31 (.invokevirtual 216) 3 34 := ⟨by decide +kernel, rfl⟩
theorem cX7_snapshot_216 : am_sV 91 216 89 7 := ⟨wd_900, wd_902, wp_26, rfl, by decide⟩
theorem iX7_snapshot_34 : am_at 91 34 (.aload_n 0) 1 35 := ⟨by decide +kernel, rfl⟩
theorem iX7_snapshot_35 : am_at 91 35 (.iload_n 1) 1 36 := ⟨by decide +kernel, rfl⟩
theorem iX7_snapshot_36 : am_at 91 36 (.invokevirtual 219) 3 39 := ⟨by decide +kernel, rfl⟩
theorem cX7_snapshot_219 : am_sV 91 219 90 7 := ⟨wd_904, wd_906, wp_27, rfl, by decide⟩
theorem iX7_snapshot_39 : am_at 91 39 (.ireturn) 1 40 := ⟨by decide +kernel, rfl⟩
theorem iX7_crash_0 : am_at 92 0 (.aload_n 0) 1 1 := ⟨by decide +kernel, rfl⟩
theorem iX7_crash_1 : am_at 92 1 (.aload_n 0) 1 2 := ⟨by decide +kernel, rfl⟩
theorem iX7_crash_2 : am_at 92 2 (.iload_n 1) 1 3 := ⟨by decide +kernel, rfl⟩
theorem iX7_crash_3 : am_at 92 3 (.invokevirtual 162) 3 6 := ⟨by decide +kernel, rfl⟩
theorem cX7_crash_162 : am_sV 92 162 75 7 := ⟨wd_842, wd_844, wp_20, rfl, by decide⟩
theorem iX7_crash_6 : am_jp 92 6 (.ifCond .eq 7) 7 13 9 := ⟨by decide +kernel, by decide, rfl⟩
theorem iX7_crash_9 : am_at 92 9 (.iconst 0) 1 10 := ⟨by decide +kernel, rfl⟩
theorem iX7_crash_10 : am_jp 92 10 (.goto 4) 4 14 13 := ⟨by decide +kernel, by decide, rfl⟩
theorem iX7_crash_13 : am_at 92 13 (.iconst 1) 1 14 := ⟨by decide +kernel, rfl⟩
theorem iX7_crash_14 : am_at 92 14 (.putfield 121) 3 17 := ⟨by decide +kernel, rfl⟩
theorem fX7_crash_121 : am_fld 92 121 7 2 0 := ⟨by decide, rfl, wd_668⟩
theorem iX7_crash_17 : am_at 92 17 (.aload_n 0) 1 18 := ⟨by decide +kernel, rfl⟩
theorem iX7_crash_18 : am_at 92 18 (.getfield 121) 3 21 := ⟨by decide +kernel, rfl⟩
theorem iX7_crash_21 : am_jp 92 21 (.ifCond .le 5) 5 26 24 := ⟨by decide +kernel, by decide, rfl⟩
theorem iX7_crash_24 : am_at 92 24 (.iconst 0) 1 25 := ⟨by decide +kernel, rfl⟩
theorem iX7_crash_25 : am_at 92 25 (.ireturn) 1 26 := ⟨by decide +kernel, rfl⟩
theorem iX7_crash_26 : am_at 92 26 (.aload_n 0) 1 27 := ⟨by decide +kernel, rfl⟩
theorem iX7_crash_27 : am_at 92 27 (.iload_n 1) 1 28 := ⟨by decide +kernel, rfl⟩
theorem iX7_crash_28 : am_at 92 28 (.invokevirtual 219) 3 31 := ⟨by decide +kernel, rfl⟩
theorem cX7_crash_219 : am_sV 92 219 90 7 := ⟨wd_904, wd_906, wp_27, rfl, by decide⟩
theorem iX7_crash_31 : am_at 92 31 (.aload_n 0) 1 32 := ⟨by decide +kernel, rfl⟩
theorem iX7_crash_32 : am_at 92 32 (.iconst 4) 1 33 := ⟨by decide +kernel, rfl⟩
theorem iX7_crash_33 : am_at 92 33 (.iload_n 1) 1 34 := ⟨by decide +kernel, rfl⟩
theorem iX7_crash_34 : am_at 92 34 (.iadd) 1 35 := ⟨by decide +kernel, rfl⟩
theorem iX7_crash_35 : am_at 92 35 (.invokevirtual 219) 3 38 := ⟨by decide +kernel, rfl⟩
theorem iX7_crash_38 : am_at 92 38 (.isub) 1 39 := ⟨by decide +kernel, rfl⟩
theorem iX7_crash_39 : am_at 92 39 (.istore_n 2) 1 40 := ⟨by decide +kernel, rfl⟩
theorem iX7_crash_40 : am_at 92 40 (.aload_n 0) 1 41 := ⟨by decide +kernel, rfl⟩
theorem iX7_crash_41 : am_at 92 41 (.iconst 4) 1 42 := ⟨by decide +kernel, rfl⟩
theorem iX7_crash_42 : am_at 92 42 (.iload_n 1) 1 43 := ⟨by decide +kernel, rfl⟩
theorem iX7_crash_43 : am_at 92 43 (.iadd) 1 44 := ⟨by decide +kernel, rfl⟩
theorem iX7_crash_44 : am_at 92 44 (.iload_n 1) 1 45 := ⟨by decide +kernel, rfl⟩
theorem iX7_crash_45 : am_at 92 45 (.invokevirtual 216) 3 48 := ⟨by decide +kernel, rfl⟩
theorem cX7_crash_216 : am_sV 92 216 89 7 := ⟨wd_900, wd_902, wp_26, rfl, by decide⟩
theorem iX7_crash_48 : am_at 92 48 (.iload_n 2) 1 49 := ⟨by decide +kernel, rfl⟩
theorem iX7_crash_49 : am_at 92 49 (.ireturn) 1 50 := ⟨by decide +kernel, rfl⟩
theorem iX7_trim_0 : am_at 93 0 (.aload_n 0) 1 1 := ⟨by decide +kernel, rfl⟩
theorem iX7_trim_1 : am_at 93 1 (.iconst 0) 1 2 := ⟨by decide +kernel, rfl⟩
theorem iX7_trim_2 : am_at 93 2 (.putfield 121) 3 5 := ⟨by decide +kernel, rfl⟩
theorem fX7_trim_121 : am_fld 93 121 7 2 0 := ⟨by decide, rfl, wd_668⟩
theorem iX7_trim_5 : am_at 93 5 (.iconst 0) 1 6 := ⟨by decide +kernel, rfl⟩
theorem iX7_trim_6 : am_at 93 6 (.istore_n 1) 1 7 := ⟨by decide +kernel, rfl⟩
theorem iX7_trim_7 : am_at 93 7 (.iconst 0) 1 8 := ⟨by decide +kernel, rfl⟩
theorem iX7_trim_8 : am_at 93 8 (.istore_n 2) 1 9 := ⟨by decide +kernel, rfl⟩
theorem iX7_trim_9 : am_at 93 9 (.iload_n 2) 1 10 := ⟨by decide +kernel, rfl⟩
theorem iX7_trim_10 : am_at 93 10 (.aload_n 0) 1 11 := ⟨by decide +kernel, rfl⟩
theorem iX7_trim_11 : am_at 93 11 (.getfield 114) 3 14 := ⟨by decide +kernel, rfl⟩
theorem fX7_trim_114 : am_fld 93 114 7 0 0 := ⟨by decide, rfl, wd_666⟩
theorem iX7_trim_14 : am_jp 93 14 (.if_icmp .ge 67) 67 81 17 := ⟨by decide +kernel, by decide, rfl⟩
theorem iX7_trim_17 : am_at 93 17 (.sipush 400) 3 20 := ⟨by decide +kernel, rfl⟩
theorem iX7_trim_20 : am_at 93 20 (.istore_n 3) 1 21 := ⟨by decide +kernel, rfl⟩
theorem iX7_trim_21 : am_at 93 21 (.iconst 0) 1 22 := ⟨by decide +kernel, rfl⟩
theorem iX7_trim_22 : am_at 93 22 (.istore 4) 2 24 := ⟨by decide +kernel, rfl⟩
theorem iX7_trim_24 : am_at 93 24 (.iload 4) 2 26 := ⟨by decide +kernel, rfl⟩
theorem iX7_trim_26 : am_at 93 26 (.aload_n 0) 1 27 := ⟨by decide +kernel, rfl⟩
theorem iX7_trim_27 : am_at 93 27 (.getfield 118) 3 30 := ⟨by decide +kernel, rfl⟩
theorem fX7_trim_118 : am_fld 93 118 7 1 0 := ⟨by decide, rfl, wd_667⟩
theorem iX7_trim_30 : am_jp 93 30 (.if_icmp .ge 27) 27 57 33 := ⟨by decide +kernel, by decide, rfl⟩
theorem iX7_trim_33 : am_at 93 33 (.iload_n 3) 1 34 := ⟨by decide +kernel, rfl⟩
theorem iX7_trim_34 : am_at 93 34 (.aload_n 0) 1 35 := ⟨by decide +kernel, rfl⟩
theorem iX7_trim_35 : am_at 93 35 (.getfield 53) 3 38 := ⟨by decide +kernel, rfl⟩
theorem fX7_trim_53 : am_fld 93 53 7 18 2 := ⟨by decide, rfl, wd_684⟩
theorem iX7_trim_38 : am_at 93 38 (.iconst 3) 1 39 := ⟨by decide +kernel, rfl⟩
theorem iX7_trim_39 : am_at 93 39 (.iconst 4) 1 40 := ⟨by decide +kernel, rfl⟩
theorem iX7_trim_40 : am_at 93 40 (.iload 4) 2 42 := ⟨by decide +kernel, rfl⟩
theorem iX7_trim_42 : am_at 93 42 (.iadd) 1 43 := ⟨by decide +kernel, rfl⟩
theorem iX7_trim_43 : am_at 93 43 (.imul) 1 44 := ⟨by decide +kernel, rfl⟩
theorem iX7_trim_44 : am_at 93 44 (.iload_n 2) 1 45 := ⟨by decide +kernel, rfl⟩
theorem iX7_trim_45 : am_at 93 45 (.iadd) 1 46 := ⟨by decide +kernel, rfl⟩
theorem iX7_trim_46 : am_at 93 46 (.iaload) 1 47 := ⟨by decide +kernel, rfl⟩
theorem iX7_trim_47 : am_at 93 47 (.invokestatic 182) 3 50 := ⟨by decide +kernel, rfl⟩
theorem cX7_trim_182 : am_sS 93 182 66 := ⟨wd_871, wd_872, wd_6⟩
theorem iX7_trim_50 : am_at 93 50 (.istore_n 3) 1 51 := ⟨by decide +kernel, rfl⟩
theorem iX7_trim_51 : am_at 93 51 (.iinc 4 1) 3 54 := ⟨by decide +kernel, rfl⟩
theorem iX7_trim_54 : am_jp 93 54 (.goto (-30)) (-30) 24 57 := ⟨by decide +kernel, by decide, rfl⟩
theorem iX7_trim_57 : am_at 93 57 (.iload_n 1) 1 58 := ⟨by decide +kernel, rfl⟩
theorem iX7_trim_58 : am_at 93 58 (.iload_n 3) 1 59 := ⟨by decide +kernel, rfl⟩
theorem iX7_trim_59 : am_at 93 59 (.aload_n 0) 1 60 := ⟨by decide +kernel, rfl⟩
theorem iX7_trim_60 : am_at 93 60 (.getfield 13) 3 63 := ⟨by decide +kernel, rfl⟩
theorem fX7_trim_13 : am_fld 93 13 7 5 2 := ⟨by decide, rfl, wd_671⟩
theorem iX7_trim_63 : am_at 93 63 (.iload_n 2) 1 64 := ⟨by decide +kernel, rfl⟩
theorem iX7_trim_64 : am_at 93 64 (.iaload) 1 65 := ⟨by decide +kernel, rfl⟩
theorem iX7_trim_65 : am_at 93 65 (.isub) 1 66 := ⟨by decide +kernel, rfl⟩
theorem iX7_trim_66 : am_at 93 66 (.iadd) 1 67 := ⟨by decide +kernel, rfl⟩
theorem iX7_trim_67 : am_at 93 67 (.istore_n 1) 1 68 := ⟨by decide +kernel, rfl⟩
theorem iX7_trim_68 : am_at 93 68 (.aload_n 0) 1 69 := ⟨by decide +kernel, rfl⟩
theorem iX7_trim_69 : am_at 93 69 (.getfield 13) 3 72 := ⟨by decide +kernel, rfl⟩
theorem iX7_trim_72 : am_at 93 72 (.iload_n 2) 1 73 := ⟨by decide +kernel, rfl⟩
theorem iX7_trim_73 : am_at 93 73 (.iload_n 3) 1 74 := ⟨by decide +kernel, rfl⟩
theorem iX7_trim_74 : am_at 93 74 (.iastore) 1 75 := ⟨by decide +kernel, rfl⟩
theorem iX7_trim_75 : am_at 93 75 (.iinc 2 1) 3 78 := ⟨by decide +kernel, rfl⟩
theorem iX7_trim_78 : am_jp 93 78 (.goto (-69)) (-69) 9 81 := ⟨by decide +kernel, by decide, rfl⟩
theorem iX7_trim_81 : am_at 93 81 (.iload_n 1) 1 82 := ⟨by decide +kernel, rfl⟩
theorem iX7_trim_82 : am_at 93 82 (.ireturn) 1 83 := ⟨by decide +kernel, rfl⟩
theorem iX7_isQuestion_0 : am_at 94 0 (.iload_n 1) 1 1 := ⟨by decide +kernel, rfl⟩
theorem iX7_isQuestion_1 : am_jp 94 1 (.ifCond .lt 9) 9 10 4 := ⟨by decide +kernel, by decide, rfl⟩
theorem iX7_isQuestion_4 : am_at 94 4 (.iload_n 1) 1 5 := ⟨by decide +kernel, rfl⟩
theorem iX7_isQuestion_5 : am_at 94 5 (.bipush 8) 2 7 := ⟨by decide +kernel, rfl⟩
theorem iX7_isQuestion_7 : am_jp 94 7 (.if_icmp .le 5) 5 12 10 := ⟨by decide +kernel, by decide, rfl⟩
theorem iX7_isQuestion_10 : am_at 94 10 (.iconst 0) 1 11 := ⟨by decide +kernel, rfl⟩
theorem iX7_isQuestion_11 : am_at 94 11 (.ireturn) 1 12 := ⟨by decide +kernel, rfl⟩
theorem iX7_isQuestion_12 : am_at 94 12 (.iload_n 1) 1 13 := ⟨by decide +kernel, rfl⟩
theorem iX7_isQuestion_13 : am_at 94 13 (.iconst 4) 1 14 := ⟨by decide +kernel, rfl⟩
theorem iX7_isQuestion_14 : am_jp 94 14 (.if_icmp .lt 9) 9 23 17 := ⟨by decide +kernel, by decide, rfl⟩
theorem iX7_isQuestion_17 : am_at 94 17 (.iload_n 1) 1 18 := ⟨by decide +kernel, rfl⟩
theorem iX7_isQuestion_18 : am_at 94 18 (.bipush 7) 2 20 := ⟨by decide +kernel, rfl⟩
theorem iX7_isQuestion_20 : am_jp 94 20 (.if_icmp .ne 15) 15 35 23 := ⟨by decide +kernel, by decide, rfl⟩
theorem iX7_isQuestion_23 : am_at 94 23 (.iload_n 2) 1 24 := ⟨by decide +kernel, rfl⟩
theorem iX7_isQuestion_24 : am_at 94 24 (.i2l) 1 25 := ⟨by decide +kernel, rfl⟩
theorem iX7_isQuestion_25 : am_at 94 25 (.lconst 0) 1 26 := ⟨by decide +kernel, rfl⟩
theorem iX7_isQuestion_26 : am_at 94 26 (.ldc2_w 165) 3 29 := ⟨by decide +kernel, rfl⟩
theorem iX7_isQuestion_29 : am_at 94 29 (.invokestatic 148) 3 32 := ⟨by decide +kernel, rfl⟩
theorem cX7_isQuestion_148 : am_sS 94 148 69 := ⟨wd_797, wd_798, wd_6⟩
theorem iX7_isQuestion_32 : am_jp 94 32 (.goto 36) 36 68 35 := ⟨by decide +kernel, by decide, rfl⟩
theorem iX7_isQuestion_35 : am_at 94 35 (.iload_n 1) 1 36 := ⟨by decide +kernel, rfl⟩
theorem iX7_isQuestion_36 : am_at 94 36 (.bipush 7) 2 38 := ⟨by decide +kernel, rfl⟩
theorem iX7_isQuestion_38 : am_jp 94 38 (.if_icmp .ge 15) 15 53 41 := ⟨by decide +kernel, by decide, rfl⟩
theorem iX7_isQuestion_41 : am_at 94 41 (.iload_n 2) 1 42 := ⟨by decide +kernel, rfl⟩
theorem iX7_isQuestion_42 : am_at 94 42 (.i2l) 1 43 := ⟨by decide +kernel, rfl⟩
theorem iX7_isQuestion_43 : am_at 94 43 (.lconst 0) 1 44 := ⟨by decide +kernel, rfl⟩
theorem iX7_isQuestion_44 : am_at 94 44 (.ldc2_w 167) 3 47 := ⟨by decide +kernel, rfl⟩
theorem iX7_isQuestion_47 : am_at 94 47 (.invokestatic 148) 3 50 := ⟨by decide +kernel, rfl⟩
theorem iX7_isQuestion_50 : am_jp 94 50 (.goto 18) 18 68 53 := ⟨by decide +kernel, by decide, rfl⟩
theorem iX7_isQuestion_53 : am_at 94 53 (.iload_n 2) 1 54 := ⟨by decide +kernel, rfl⟩
theorem iX7_isQuestion_54 : am_at 94 54 (.i2l) 1 55 := ⟨by decide +kernel, rfl⟩
theorem iX7_isQuestion_55 : am_at 94 55 (.ldc2_w 223) 3 58 := ⟨by decide +kernel, rfl⟩
theorem iX7_isQuestion_58 : am_at 94 58 (.aload_n 0) 1 59 := ⟨by decide +kernel, rfl⟩
theorem iX7_isQuestion_59 : am_at 94 59 (.getfield 114) 3 62 := ⟨by decide +kernel, rfl⟩
theorem fX7_isQuestion_114 : am_fld 94 114 7 0 0 := ⟨by decide, rfl, wd_666⟩
theorem iX7_isQuestion_62 : am_at 94 62 (.iconst 1) 1 63 := ⟨by decide +kernel, rfl⟩
theorem iX7_isQuestion_63 : am_at 94 63 (.isub) 1 64 := ⟨by decide +kernel, rfl⟩
theorem iX7_isQuestion_64 : am_at 94 64 (.i2l) 1 65 := ⟨by decide +kernel, rfl⟩
theorem iX7_isQuestion_65 : am_at 94 65 (.invokestatic 148) 3 68 := ⟨by decide +kernel, rfl⟩
theorem iX7_isQuestion_68 : am_at 94 68 (.ireturn) 1 69 := ⟨by decide +kernel, rfl⟩
theorem iX7_tell_0 : am_at 95 0 (.bipush 30) 2 2 := ⟨by decide +kernel, rfl⟩
theorem iX7_tell_2 : am_at 95 2 (.iload_n 1) 1 3 := ⟨by decide +kernel, rfl⟩
theorem iX7_tell_3 : am_at 95 3 (.imul) 1 4 := ⟨by decide +kernel, rfl⟩
theorem iX7_tell_4 : am_at 95 4 (.iload_n 3) 1 5 := ⟨by decide +kernel, rfl⟩
theorem iX7_tell_5 : am_at 95 5 (.iadd) 1 6 := ⟨by decide +kernel, rfl⟩
theorem iX7_tell_6 : am_at 95 6 (.istore 4) 2 8 := ⟨by decide +kernel, rfl⟩
theorem iX7_tell_8 : am_at 95 8 (.bipush 10) 2 10 := ⟨by decide +kernel, rfl⟩
theorem iX7_tell_10 : am_at 95 10 (.iload_n 1) 1 11 := ⟨by decide +kernel, rfl⟩
theorem iX7_tell_11 : am_at 95 11 (.imul) 1 12 := ⟨by decide +kernel, rfl⟩
theorem iX7_tell_12 : am_at 95 12 (.iload_n 3) 1 13 := ⟨by decide +kernel, rfl⟩
theorem iX7_tell_13 : am_at 95 13 (.iadd) 1 14 := ⟨by decide +kernel, rfl⟩
theorem iX7_tell_14 : am_at 95 14 (.istore 5) 2 16 := ⟨by decide +kernel, rfl⟩
theorem iX7_tell_16 : am_at 95 16 (.lconst 0) 1 17 := ⟨by decide +kernel, rfl⟩
theorem iX7_tell_17 : am_at 95 17 (.lstore 6) 2 19 := ⟨by decide +kernel, rfl⟩
theorem iX7_tell_19 : am_at 95 19 (.iload_n 2) 1 20 := ⟨by decide +kernel, rfl⟩
theorem iX7_tell_20 : decode (am_b 95) 20 = .ok (.tableswitch 147 0 7 #[48, 57, 66, 75, 84, 92, 130, 139], 48) := by decide +kernel
theorem iX7_tell_68 : am_at 95 68 (.aload_n 0) 1 69 := ⟨by decide +kernel, rfl⟩
theorem iX7_tell_69 : am_at 95 69 (.getfield 31) 3 72 := ⟨by decide +kernel, rfl⟩
theorem fX7_tell_31 : am_fld 95 31 7 11 2 := ⟨by decide, rfl, wd_677⟩
theorem iX7_tell_72 : am_at 95 72 (.iload 4) 2 74 := ⟨by decide +kernel, rfl⟩
theorem iX7_tell_74 : am_at 95 74 (.iaload) 1 75 := ⟨by decide +kernel, rfl⟩
theorem iX7_tell_75 : am_at 95 75 (.i2l) 1 76 := ⟨by decide +kernel, rfl⟩
theorem iX7_tell_76 : am_at 95 76 (.lreturn) 1 77 := ⟨by decide +kernel, rfl⟩
theorem iX7_tell_77 : am_at 95 77 (.aload_n 0) 1 78 := ⟨by decide +kernel, rfl⟩
theorem iX7_tell_78 : am_at 95 78 (.getfield 34) 3 81 := ⟨by decide +kernel, rfl⟩
theorem fX7_tell_34 : am_fld 95 34 7 12 2 := ⟨by decide, rfl, wd_678⟩
theorem iX7_tell_81 : am_at 95 81 (.iload 4) 2 83 := ⟨by decide +kernel, rfl⟩
theorem iX7_tell_83 : am_at 95 83 (.iaload) 1 84 := ⟨by decide +kernel, rfl⟩
theorem iX7_tell_84 : am_at 95 84 (.i2l) 1 85 := ⟨by decide +kernel, rfl⟩
theorem iX7_tell_85 : am_at 95 85 (.lreturn) 1 86 := ⟨by decide +kernel, rfl⟩
theorem iX7_tell_86 : am_at 95 86 (.aload_n 0) 1 87 := ⟨by decide +kernel, rfl⟩
theorem iX7_tell_87 : am_at 95 87 (.getfield 37) 3 90 := ⟨by decide +kernel, rfl⟩
theorem fX7_tell_37 : am_fld 95 37 7 13 2 := ⟨by decide, rfl, wd_679⟩
theorem iX7_tell_90 : am_at 95 90 (.iload 4) 2 92 := ⟨by decide +kernel, rfl⟩
theorem iX7_tell_92 : am_at 95 92 (.iaload) 1 93 := ⟨by decide +kernel, rfl⟩
theorem iX7_tell_93 : am_at 95 93 (.i2l) 1 94 := ⟨by decide +kernel, rfl⟩
theorem iX7_tell_94 : am_at 95 94 (.lreturn) 1 95 := ⟨by decide +kernel, rfl⟩
theorem iX7_tell_95 : am_at 95 95 (.aload_n 0) 1 96 := ⟨by decide +kernel, rfl⟩
theorem iX7_tell_96 : am_at 95 96 (.getfield 40) 3 99 := ⟨by decide +kernel, rfl⟩
theorem fX7_tell_40 : am_fld 95 40 7 14 2 := ⟨by decide, rfl, wd_680⟩
theorem iX7_tell_99 : am_at 95 99 (.iload 4) 2 101 := ⟨by decide +kernel, rfl⟩
theorem iX7_tell_101 : am_at 95 101 (.iaload) 1 102 := ⟨by decide +kernel, rfl⟩
theorem iX7_tell_102 : am_at 95 102 (.i2l) 1 103 := ⟨by decide +kernel, rfl⟩
theorem iX7_tell_103 : am_at 95 103 (.lreturn) 1 104 := ⟨by decide +kernel, rfl⟩
theorem iX7_tell_104 : am_at 95 104 (.aload_n 0) 1 105 := ⟨by decide +kernel, rfl⟩
theorem iX7_tell_105 : am_at 95 105 (.getfield 46) 3 108 := ⟨by decide +kernel, rfl⟩
theorem fX7_tell_46 : am_fld 95 46 7 16 2 := ⟨by decide, rfl, wd_682⟩
theorem iX7_tell_108 : am_at 95 108 (.iload 5) 2 110 := ⟨by decide +kernel, rfl⟩
theorem iX7_tell_110 : am_at 95 110 (.laload) 1 111 := ⟨by decide +kernel, rfl⟩
theorem iX7_tell_111 : am_at 95 111 (.lreturn) 1 112 := ⟨by decide +kernel, rfl⟩
theorem iX7_tell_112 : am_at 95 112 (.iconst 0) 1 113 := ⟨by decide +kernel, rfl⟩
theorem iX7_tell_113 : am_at 95 113 (.istore 8) 2 115 := ⟨by decide +kernel, rfl⟩
theorem iX7_tell_115 : am_at 95 115 (.iload 8) 2 117 := ⟨by decide +kernel, rfl⟩
theorem iX7_tell_117 : am_at 95 117 (.bipush 30) 2 119 := ⟨by decide +kernel, rfl⟩
theorem iX7_tell_119 : am_jp 95 119 (.if_icmp .ge 28) 28 147 122 := ⟨by decide +kernel, by decide, rfl⟩
theorem iX7_tell_122 : am_at 95 122 (.lload 6) 2 124 := ⟨by decide +kernel, rfl⟩
theorem iX7_tell_124 : am_at 95 124 (.aload_n 0) 1 125 := ⟨by decide +kernel, rfl⟩
theorem iX7_tell_125 : am_at 95 125 (.getfield 43) 3 128 := ⟨by decide +kernel, rfl⟩
theorem fX7_tell_43 : am_fld 95 43 7 15 2 := ⟨by decide, rfl, wd_681⟩
theorem iX7_tell_128 : am_at 95 128 (.bipush 30) 2 130 := ⟨by decide +kernel, rfl⟩
theorem iX7_tell_130 : am_at 95 130 (.iload 5) 2 132 := ⟨by decide +kernel, rfl⟩
theorem iX7_tell_132 : am_at 95 132 (.imul) 1 133 := ⟨by decide +kernel, rfl⟩
theorem iX7_tell_133 : am_at 95 133 (.iload 8) 2 135 := ⟨by decide +kernel, rfl⟩
theorem iX7_tell_135 : am_at 95 135 (.iadd) 1 136 := ⟨by decide +kernel, rfl⟩
theorem iX7_tell_136 : am_at 95 136 (.iaload) 1 137 := ⟨by decide +kernel, rfl⟩
theorem iX7_tell_137 : am_at 95 137 (.i2l) 1 138 := ⟨by decide +kernel, rfl⟩
theorem iX7_tell_138 : am_at 95 138 (.ladd) 1 139 := ⟨by decide +kernel, rfl⟩
theorem iX7_tell_139 : am_at 95 139 (.lstore 6) 2 141 := ⟨by decide +kernel, rfl⟩
theorem iX7_tell_141 : am_at 95 141 (.iinc 8 1) 3 144 := ⟨by decide +kernel, rfl⟩
theorem iX7_tell_144 : am_jp 95 144 (.goto (-29)) (-29) 115 147 := ⟨by decide +kernel, by decide, rfl⟩
theorem iX7_tell_147 : am_at 95 147 (.lload 6) 2 149 := ⟨by decide +kernel, rfl⟩
theorem iX7_tell_149 : am_at 95 149 (.lreturn) 1 150 := ⟨by decide +kernel, rfl⟩
theorem iX7_tell_150 : am_at 95 150 (.aload_n 0) 1 151 := ⟨by decide +kernel, rfl⟩
theorem iX7_tell_151 : am_at 95 151 (.getfield 50) 3 154 := ⟨by decide +kernel, rfl⟩
theorem fX7_tell_50 : am_fld 95 50 7 17 2 := ⟨by decide, rfl, wd_683⟩
theorem iX7_tell_154 : am_at 95 154 (.iload 5) 2 156 := ⟨by decide +kernel, rfl⟩
theorem iX7_tell_156 : am_at 95 156 (.iaload) 1 157 := ⟨by decide +kernel, rfl⟩
theorem iX7_tell_157 : am_at 95 157 (.i2l) 1 158 := ⟨by decide +kernel, rfl⟩
theorem iX7_tell_158 : am_at 95 158 (.lreturn) 1 159 := ⟨by decide +kernel, rfl⟩
theorem iX7_tell_159 : am_at 95 159 (.aload_n 0) 1 160 := ⟨by decide +kernel, rfl⟩
theorem iX7_tell_160 : am_at 95 160 (.iload_n 1) 1 161 := ⟨by decide +kernel, rfl⟩
theorem iX7_tell_161 : am_at 95 161 (.iload_n 3) 1 162 := ⟨by decide +kernel, rfl⟩
theorem iX7_tell_162 : am_at 95 162 (.invokevirtual 225) 3 165 := ⟨by decide +kernel, rfl⟩
theorem cX7_tell_225 : am_sV 95 225 96 7 := ⟨wd_821, wd_823, wp_19, rfl, by decide⟩
theorem iX7_tell_165 : am_at 95 165 (.i2l) 1 166 := ⟨by decide +kernel, rfl⟩
theorem iX7_tell_166 : am_at 95 166 (.lreturn) 1 167 := ⟨by decide +kernel, rfl⟩
theorem iX7_tell_167 : am_at 95 167 (.iconst 0) 1 168 := ⟨by decide +kernel, rfl⟩
theorem iX7_tell_168 : am_at 95 168 (.istore 8) 2 170 := ⟨by decide +kernel, rfl⟩
theorem iX7_tell_170 : am_at 95 170 (.iload 8) 2 172 := ⟨by decide +kernel, rfl⟩
theorem iX7_tell_172 : am_at 95 172 (.bipush 30) 2 174 := ⟨by decide +kernel, rfl⟩
theorem iX7_tell_174 : am_jp 95 174 (.if_icmp .ge 56) 56 230 177 := ⟨by decide +kernel, by decide, rfl⟩
theorem iX7_tell_177 : am_at 95 177 (.iload_n 3) 1 178 := ⟨by decide +kernel, rfl⟩
theorem iX7_tell_178 : am_jp 95 178 (.ifCond .lt 14) 14 192 181 := ⟨by decide +kernel, by decide, rfl⟩
theorem iX7_tell_181 : am_at 95 181 (.iload 8) 2 183 := ⟨by decide +kernel, rfl⟩
theorem iX7_tell_183 : am_at 95 183 (.aload_n 0) 1 184 := ⟨by decide +kernel, rfl⟩
theorem iX7_tell_184 : am_at 95 184 (.getfield 114) 3 187 := ⟨by decide +kernel, rfl⟩
theorem fX7_tell_114 : am_fld 95 114 7 0 0 := ⟨by decide, rfl, wd_666⟩
theorem iX7_tell_187 : am_at 95 187 (.irem) 1 188 := ⟨by decide +kernel, rfl⟩
theorem iX7_tell_188 : am_at 95 188 (.iload_n 3) 1 189 := ⟨by decide +kernel, rfl⟩
theorem iX7_tell_189 : am_jp 95 189 (.if_icmp .ne 35) 35 224 192 := ⟨by decide +kernel, by decide, rfl⟩
theorem iX7_tell_192 : am_at 95 192 (.lload 6) 2 194 := ⟨by decide +kernel, rfl⟩
theorem iX7_tell_194 : am_at 95 194 (.aload_n 0) 1 195 := ⟨by decide +kernel, rfl⟩
theorem iX7_tell_195 : am_at 95 195 (.getfield 31) 3 198 := ⟨by decide +kernel, rfl⟩
theorem iX7_tell_198 : am_at 95 198 (.bipush 30) 2 200 := ⟨by decide +kernel, rfl⟩
theorem iX7_tell_200 : am_at 95 200 (.iload_n 1) 1 201 := ⟨by decide +kernel, rfl⟩
theorem iX7_tell_201 : am_at 95 201 (.imul) 1 202 := ⟨by decide +kernel, rfl⟩
theorem iX7_tell_202 : am_at 95 202 (.iload 8) 2 204 := ⟨by decide +kernel, rfl⟩
theorem iX7_tell_204 : am_at 95 204 (.iadd) 1 205 := ⟨by decide +kernel, rfl⟩
theorem iX7_tell_205 : am_at 95 205 (.iaload) 1 206 := ⟨by decide +kernel, rfl⟩
theorem iX7_tell_206 : am_at 95 206 (.i2l) 1 207 := ⟨by decide +kernel, rfl⟩
theorem iX7_tell_207 : am_at 95 207 (.aload_n 0) 1 208 := ⟨by decide +kernel, rfl⟩
theorem iX7_tell_208 : am_at 95 208 (.getfield 40) 3 211 := ⟨by decide +kernel, rfl⟩
theorem iX7_tell_211 : am_at 95 211 (.bipush 30) 2 213 := ⟨by decide +kernel, rfl⟩
theorem iX7_tell_213 : am_at 95 213 (.iload_n 1) 1 214 := ⟨by decide +kernel, rfl⟩
theorem iX7_tell_214 : am_at 95 214 (.imul) 1 215 := ⟨by decide +kernel, rfl⟩
theorem iX7_tell_215 : am_at 95 215 (.iload 8) 2 217 := ⟨by decide +kernel, rfl⟩
theorem iX7_tell_217 : am_at 95 217 (.iadd) 1 218 := ⟨by decide +kernel, rfl⟩
theorem iX7_tell_218 : am_at 95 218 (.iaload) 1 219 := ⟨by decide +kernel, rfl⟩
theorem iX7_tell_219 : am_at 95 219 (.i2l) 1 220 := ⟨by decide +kernel, rfl⟩
theorem iX7_tell_220 : am_at 95 220 (.lmul) 1 221 := ⟨by decide +kernel, rfl⟩
theorem iX7_tell_221 : am_at 95 221 (.ladd) 1 222 := ⟨by decide +kernel, rfl⟩
theorem iX7_tell_222 : am_at 95 222 (.lstore 6) 2 224 := ⟨by decide +kernel, rfl⟩
theorem iX7_tell_224 : am_at 95 224 (.iinc 8 1) 3 227 := ⟨by decide +kernel, rfl⟩
theorem iX7_tell_227 : am_jp 95 227 (.goto (-57)) (-57) 170 230 := ⟨by decide +kernel, by decide, rfl⟩
theorem iX7_tell_230 : am_at 95 230 (.lload 6) 2 232 := ⟨by decide +kernel, rfl⟩
theorem iX7_tell_232 : am_at 95 232 (.lreturn) 1 233 := ⟨by decide +kernel, rfl⟩
theorem iX7_ranked_0 : am_at 96 0 (.iconst 0) 1 1 := ⟨by decide +kernel, rfl⟩
theorem iX7_ranked_1 : am_at 96 1 (.istore_n 3) 1 2 := ⟨by decide +kernel, rfl⟩
theorem iX7_ranked_2 : am_at 96 2 (.iconst 0) 1 3 := ⟨by decide +kernel, rfl⟩
theorem iX7_ranked_3 : am_at 96 3 (.istore 4) 2 5 := ⟨by decide +kernel, rfl⟩
theorem iX7_ranked_5 : am_at 96 5 (.iload 4) 2 7 := ⟨by decide +kernel, rfl⟩
theorem iX7_ranked_7 : am_at 96 7 (.bipush 30) 2 9 := ⟨by decide +kernel, rfl⟩
theorem iX7_ranked_9 : am_jp 96 9 (.if_icmp .ge 84) 84 93 12 := ⟨by decide +kernel, by decide, rfl⟩
theorem iX7_ranked_12 : am_at 96 12 (.iconst 0) 1 13 := ⟨by decide +kernel, rfl⟩
theorem iX7_ranked_13 : am_at 96 13 (.istore 5) 2 15 := ⟨by decide +kernel, rfl⟩
theorem iX7_ranked_15 : am_at 96 15 (.iconst 0) 1 16 := ⟨by decide +kernel, rfl⟩
theorem iX7_ranked_16 : am_at 96 16 (.istore 6) 2 18 := ⟨by decide +kernel, rfl⟩
theorem iX7_ranked_18 : am_at 96 18 (.iload 6) 2 20 := ⟨by decide +kernel, rfl⟩
theorem iX7_ranked_20 : am_at 96 20 (.bipush 30) 2 22 := ⟨by decide +kernel, rfl⟩
theorem iX7_ranked_22 : am_jp 96 22 (.if_icmp .ge 56) 56 78 25 := ⟨by decide +kernel, by decide, rfl⟩
theorem iX7_ranked_25 : am_at 96 25 (.aload_n 0) 1 26 := ⟨by decide +kernel, rfl⟩
theorem iX7_ranked_26 : am_at 96 26 (.getfield 37) 3 29 := ⟨by decide +kernel, rfl⟩
theorem fX7_ranked_37 : am_fld 96 37 7 13 2 := ⟨by decide, rfl, wd_679⟩
theorem iX7_ranked_29 : am_at 96 29 (.bipush 30) 2 31 := ⟨by decide +kernel, rfl⟩
theorem iX7_ranked_31 : am_at 96 31 (.iload_n 1) 1 32 := ⟨by decide +kernel, rfl⟩
theorem iX7_ranked_32 : am_at 96 32 (.imul) 1 33 := ⟨by decide +kernel, rfl⟩
theorem iX7_ranked_33 : am_at 96 33 (.iload 6) 2 35 := ⟨by decide +kernel, rfl⟩
theorem iX7_ranked_35 : am_at 96 35 (.iadd) 1 36 := ⟨by decide +kernel, rfl⟩
theorem iX7_ranked_36 : am_at 96 36 (.iaload) 1 37 := ⟨by decide +kernel, rfl⟩
theorem iX7_ranked_37 : am_at 96 37 (.aload_n 0) 1 38 := ⟨by decide +kernel, rfl⟩
theorem iX7_ranked_38 : am_at 96 38 (.getfield 37) 3 41 := ⟨by decide +kernel, rfl⟩
theorem iX7_ranked_41 : am_at 96 41 (.bipush 30) 2 43 := ⟨by decide +kernel, rfl⟩
theorem iX7_ranked_43 : am_at 96 43 (.iload_n 1) 1 44 := ⟨by decide +kernel, rfl⟩
theorem iX7_ranked_44 : am_at 96 44 (.imul) 1 45 := ⟨by decide +kernel, rfl⟩
theorem iX7_ranked_45 : am_at 96 45 (.iload 4) 2 47 := ⟨by decide +kernel, rfl⟩
theorem iX7_ranked_47 : am_at 96 47 (.iadd) 1 48 := ⟨by decide +kernel, rfl⟩
theorem iX7_ranked_48 : am_at 96 48 (.iaload) 1 49 := ⟨by decide +kernel, rfl⟩
theorem iX7_ranked_49 : am_at 96 49 (.isub) 1 50 := ⟨by decide +kernel, rfl⟩
theorem iX7_ranked_50 : am_at 96 50 (.istore 7) 2 52 := ⟨by decide +kernel, rfl⟩
theorem iX7_ranked_52 : am_at 96 52 (.iload 7) 2 54 := ⟨by decide +kernel, rfl⟩
theorem iX7_ranked_54 : am_jp 96 54 (.ifCond .gt 15) 15 69 57 := ⟨by decide +kernel, by decide, rfl⟩
theorem iX7_ranked_57 : am_at 96 57 (.iload 7) 2 59 := ⟨by decide +kernel, rfl⟩
theorem iX7_ranked_59 : am_jp 96 59 (.ifCond .ne 13) 13 72 62 := ⟨by decide +kernel, by decide, rfl⟩
theorem iX7_ranked_62 : am_at 96 62 (.iload 6) 2 64 := ⟨by decide +kernel, rfl⟩
theorem iX7_ranked_64 : am_at 96 64 (.iload 4) 2 66 := ⟨by decide +kernel, rfl⟩
theorem iX7_ranked_66 : am_jp 96 66 (.if_icmp .ge 6) 6 72 69 := ⟨by decide +kernel, by decide, rfl⟩
theorem iX7_ranked_69 : am_at 96 69 (.iinc 5 1) 3 72 := ⟨by decide +kernel, rfl⟩
theorem iX7_ranked_72 : am_at 96 72 (.iinc 6 1) 3 75 := ⟨by decide +kernel, rfl⟩
theorem iX7_ranked_75 : am_jp 96 75 (.goto (-57)) (-57) 18 78 := ⟨by decide +kernel, by decide, rfl⟩
theorem iX7_ranked_78 : am_at 96 78 (.iload 5) 2 80 := ⟨by decide +kernel, rfl⟩
theorem iX7_ranked_80 : am_at 96 80 (.iload_n 2) 1 81 := ⟨by decide +kernel, rfl⟩
theorem iX7_ranked_81 : am_jp 96 81 (.if_icmp .ne 6) 6 87 84 := ⟨by decide +kernel, by decide, rfl⟩
theorem iX7_ranked_84 : am_at 96 84 (.iload 4) 2 86 := ⟨by decide +kernel, rfl⟩
theorem iX7_ranked_86 : am_at 96 86 (.istore_n 3) 1 87 := ⟨by decide +kernel, rfl⟩
theorem iX7_ranked_87 : am_at 96 87 (.iinc 4 1) 3 90 := ⟨by decide +kernel, rfl⟩
theorem iX7_ranked_90 : am_jp 96 90 (.goto (-85)) (-85) 5 93 := ⟨by decide +kernel, by decide, rfl⟩
theorem iX7_ranked_93 : am_at 96 93 (.iload_n 3) 1 94 := ⟨by decide +kernel, rfl⟩
theorem iX7_ranked_94 : am_at 96 94 (.ireturn) 1 95 := ⟨by decide +kernel, rfl⟩
theorem iX7_may_0 : am_at 97 0 (.aload_n 0) 1 1 := ⟨by decide +kernel, rfl⟩
theorem iX7_may_1 : am_at 97 1 (.getfield 81) 3 4 := ⟨by decide +kernel, rfl⟩
theorem fX7_may_81 : am_fld 97 81 7 28 2 := ⟨by decide, rfl, wd_694⟩
theorem iX7_may_4 : am_at 97 4 (.iload_n 2) 1 5 := ⟨by decide +kernel, rfl⟩
theorem iX7_may_5 : am_at 97 5 (.iaload) 1 6 := ⟨by decide +kernel, rfl⟩
theorem iX7_may_6 : am_at 97 6 (.istore_n 3) 1 7 := ⟨by decide +kernel, rfl⟩
theorem iX7_may_7 : am_at 97 7 (.aload_n 0) 1 8 := ⟨by decide +kernel, rfl⟩
theorem iX7_may_8 : am_at 97 8 (.getfield 62) 3 11 := ⟨by decide +kernel, rfl⟩
theorem fX7_may_62 : am_fld 97 62 7 21 2 := ⟨by decide, rfl, wd_687⟩
theorem iX7_may_11 : am_at 97 11 (.iload_n 1) 1 12 := ⟨by decide +kernel, rfl⟩
theorem iX7_may_12 : am_at 97 12 (.baload) 1 13 := ⟨by decide +kernel, rfl⟩
theorem iX7_may_13 : am_jp 97 13 (.ifCond .eq 74) 74 87 16 := ⟨by decide +kernel, by decide, rfl⟩
theorem iX7_may_16 : am_at 97 16 (.aload_n 0) 1 17 := ⟨by decide +kernel, rfl⟩
theorem iX7_may_17 : am_at 97 17 (.aload_n 0) 1 18 := ⟨by decide +kernel, rfl⟩
theorem iX7_may_18 : am_at 97 18 (.getfield 84) 3 21 := ⟨by decide +kernel, rfl⟩
theorem fX7_may_84 : am_fld 97 84 7 29 2 := ⟨by decide, rfl, wd_695⟩
theorem iX7_may_21 : am_at 97 21 (.iconst 3) 1 22 := ⟨by decide +kernel, rfl⟩
theorem iX7_may_22 : am_at 97 22 (.iload_n 2) 1 23 := ⟨by decide +kernel, rfl⟩
theorem iX7_may_23 : am_at 97 23 (.imul) 1 24 := ⟨by decide +kernel, rfl⟩
theorem iX7_may_24 : am_at 97 24 (.iload_n 1) 1 25 := ⟨by decide +kernel, rfl⟩
theorem iX7_may_25 : am_at 97 25 (.invokevirtual 185) 3 28 := ⟨by decide +kernel, rfl⟩
theorem cX7_may_185 : am_sV 97 185 81 7 := ⟨wd_809, wd_811, wp_16, rfl, by decide⟩
theorem iX7_may_28 : am_jp 97 28 (.ifCond .eq 59) 59 87 31 := ⟨by decide +kernel, by decide, rfl⟩
theorem iX7_may_31 : am_at 97 31 (.aload_n 0) 1 32 := ⟨by decide +kernel, rfl⟩
theorem iX7_may_32 : am_at 97 32 (.getfield 66) 3 35 := ⟨by decide +kernel, rfl⟩
theorem fX7_may_66 : am_fld 97 66 7 22 2 := ⟨by decide, rfl, wd_688⟩
theorem iX7_may_35 : am_at 97 35 (.iload_n 3) 1 36 := ⟨by decide +kernel, rfl⟩
theorem iX7_may_36 : am_at 97 36 (.iaload) 1 37 := ⟨by decide +kernel, rfl⟩
theorem iX7_may_37 : am_at 97 37 (.iconst 1) 1 38 := ⟨by decide +kernel, rfl⟩
theorem iX7_may_38 : am_at 97 38 (.iand) 1 39 := ⟨by decide +kernel, rfl⟩
theorem iX7_may_39 : am_jp 97 39 (.ifCond .eq 18) 18 57 42 := ⟨by decide +kernel, by decide, rfl⟩
theorem iX7_may_42 : am_at 97 42 (.aload_n 0) 1 43 := ⟨by decide +kernel, rfl⟩
theorem iX7_may_43 : am_at 97 43 (.aload_n 0) 1 44 := ⟨by decide +kernel, rfl⟩
theorem iX7_may_44 : am_at 97 44 (.getfield 72) 3 47 := ⟨by decide +kernel, rfl⟩
theorem fX7_may_72 : am_fld 97 72 7 24 2 := ⟨by decide, rfl, wd_690⟩
theorem iX7_may_47 : am_at 97 47 (.iconst 3) 1 48 := ⟨by decide +kernel, rfl⟩
theorem iX7_may_48 : am_at 97 48 (.iload_n 3) 1 49 := ⟨by decide +kernel, rfl⟩
theorem iX7_may_49 : am_at 97 49 (.imul) 1 50 := ⟨by decide +kernel, rfl⟩
theorem iX7_may_50 : am_at 97 50 (.iload_n 1) 1 51 := ⟨by decide +kernel, rfl⟩
theorem iX7_may_51 : am_at 97 51 (.invokevirtual 185) 3 54 := ⟨by decide +kernel, rfl⟩
theorem iX7_may_54 : am_jp 97 54 (.ifCond .eq 33) 33 87 57 := ⟨by decide +kernel, by decide, rfl⟩
theorem iX7_may_57 : am_at 97 57 (.aload_n 0) 1 58 := ⟨by decide +kernel, rfl⟩
theorem iX7_may_58 : am_at 97 58 (.getfield 66) 3 61 := ⟨by decide +kernel, rfl⟩
theorem iX7_may_61 : am_at 97 61 (.iload_n 3) 1 62 := ⟨by decide +kernel, rfl⟩
theorem iX7_may_62 : am_at 97 62 (.iaload) 1 63 := ⟨by decide +kernel, rfl⟩
theorem iX7_may_63 : am_at 97 63 (.iconst 2) 1 64 := ⟨by decide +kernel, rfl⟩
theorem iX7_may_64 : am_at 97 64 (.iand) 1 65 := ⟨by decide +kernel, rfl⟩
theorem iX7_may_65 : am_jp 97 65 (.ifCond .eq 18) 18 83 68 := ⟨by decide +kernel, by decide, rfl⟩
theorem iX7_may_68 : am_at 97 68 (.aload_n 0) 1 69 := ⟨by decide +kernel, rfl⟩
theorem iX7_may_69 : am_at 97 69 (.aload_n 0) 1 70 := ⟨by decide +kernel, rfl⟩
theorem iX7_may_70 : am_at 97 70 (.getfield 75) 3 73 := ⟨by decide +kernel, rfl⟩
theorem fX7_may_75 : am_fld 97 75 7 25 2 := ⟨by decide, rfl, wd_691⟩
theorem iX7_may_73 : am_at 97 73 (.iconst 3) 1 74 := ⟨by decide +kernel, rfl⟩
theorem iX7_may_74 : am_at 97 74 (.iload_n 3) 1 75 := ⟨by decide +kernel, rfl⟩
theorem iX7_may_75 : am_at 97 75 (.imul) 1 76 := ⟨by decide +kernel, rfl⟩
theorem iX7_may_76 : am_at 97 76 (.iload_n 1) 1 77 := ⟨by decide +kernel, rfl⟩
theorem iX7_may_77 : am_at 97 77 (.invokevirtual 185) 3 80 := ⟨by decide +kernel, rfl⟩
theorem iX7_may_80 : am_jp 97 80 (.ifCond .eq 7) 7 87 83 := ⟨by decide +kernel, by decide, rfl⟩
theorem iX7_may_83 : am_at 97 83 (.iconst 1) 1 84 := ⟨by decide +kernel, rfl⟩
theorem iX7_may_84 : am_jp 97 84 (.goto 4) 4 88 87 := ⟨by decide +kernel, by decide, rfl⟩
theorem iX7_may_87 : am_at 97 87 (.iconst 0) 1 88 := ⟨by decide +kernel, rfl⟩
theorem iX7_may_88 : am_at 97 88 (.istore 4) 2 90 := ⟨by decide +kernel, rfl⟩
theorem iX7_may_90 : am_at 97 90 (.iconst 0) 1 91 := ⟨by decide +kernel, rfl⟩
theorem iX7_may_91 : am_at 97 91 (.istore 5) 2 93 := ⟨by decide +kernel, rfl⟩
theorem iX7_may_93 : am_at 97 93 (.iload 5) 2 95 := ⟨by decide +kernel, rfl⟩
theorem iX7_may_95 : am_at 97 95 (.aload_n 0) 1 96 := ⟨by decide +kernel, rfl⟩
theorem iX7_may_96 : am_at 97 96 (.getfield 114) 3 99 := ⟨by decide +kernel, rfl⟩
theorem fX7_may_114 : am_fld 97 114 7 0 0 := ⟨by decide, rfl, wd_666⟩
theorem iX7_may_99 : am_jp 97 99 (.if_icmp .ge 56) 56 155 102 := ⟨by decide +kernel, by decide, rfl⟩
theorem iX7_may_102 : am_at 97 102 (.aload_n 0) 1 103 := ⟨by decide +kernel, rfl⟩
theorem iX7_may_103 : am_at 97 103 (.getfield 87) 3 106 := ⟨by decide +kernel, rfl⟩
theorem fX7_may_87 : am_fld 97 87 7 30 2 := ⟨by decide, rfl, wd_696⟩
theorem iX7_may_106 : am_at 97 106 (.iload_n 2) 1 107 := ⟨by decide +kernel, rfl⟩
theorem iX7_may_107 : am_at 97 107 (.iaload) 1 108 := ⟨by decide +kernel, rfl⟩
theorem iX7_may_108 : am_jp 97 108 (.ifCond .lt 47) 47 155 111 := ⟨by decide +kernel, by decide, rfl⟩
theorem iX7_may_111 : am_at 97 111 (.iload 4) 2 113 := ⟨by decide +kernel, rfl⟩
theorem iX7_may_113 : am_at 97 113 (.aload_n 0) 1 114 := ⟨by decide +kernel, rfl⟩
theorem iX7_may_114 : am_at 97 114 (.getfield 7) 3 117 := ⟨by decide +kernel, rfl⟩
theorem fX7_may_7 : am_fld 97 7 7 4 2 := ⟨by decide, rfl, wd_670⟩
theorem iX7_may_117 : am_at 97 117 (.iload 5) 2 119 := ⟨by decide +kernel, rfl⟩
theorem iX7_may_119 : am_at 97 119 (.iaload) 1 120 := ⟨by decide +kernel, rfl⟩
theorem iX7_may_120 : am_at 97 120 (.aload_n 0) 1 121 := ⟨by decide +kernel, rfl⟩
theorem iX7_may_121 : am_at 97 121 (.getfield 53) 3 124 := ⟨by decide +kernel, rfl⟩
theorem fX7_may_53 : am_fld 97 53 7 18 2 := ⟨by decide, rfl, wd_684⟩
theorem iX7_may_124 : am_at 97 124 (.iconst 3) 1 125 := ⟨by decide +kernel, rfl⟩
theorem iX7_may_125 : am_at 97 125 (.iload_n 1) 1 126 := ⟨by decide +kernel, rfl⟩
theorem iX7_may_126 : am_at 97 126 (.imul) 1 127 := ⟨by decide +kernel, rfl⟩
theorem iX7_may_127 : am_at 97 127 (.iload 5) 2 129 := ⟨by decide +kernel, rfl⟩
theorem iX7_may_129 : am_at 97 129 (.iadd) 1 130 := ⟨by decide +kernel, rfl⟩
theorem iX7_may_130 : am_at 97 130 (.iaload) 1 131 := ⟨by decide +kernel, rfl⟩
theorem iX7_may_131 : am_at 97 131 (.isub) 1 132 := ⟨by decide +kernel, rfl⟩
theorem iX7_may_132 : am_at 97 132 (.aload_n 0) 1 133 := ⟨by decide +kernel, rfl⟩
theorem iX7_may_133 : am_at 97 133 (.getfield 87) 3 136 := ⟨by decide +kernel, rfl⟩
theorem iX7_may_136 : am_at 97 136 (.iload_n 2) 1 137 := ⟨by decide +kernel, rfl⟩
theorem iX7_may_137 : am_at 97 137 (.iaload) 1 138 := ⟨by decide +kernel, rfl⟩
theorem iX7_may_138 : am_jp 97 138 (.if_icmp .gt 7) 7 145 141 := ⟨by decide +kernel, by decide, rfl⟩
theorem iX7_may_141 : am_at 97 141 (.iconst 1) 1 142 := ⟨by decide +kernel, rfl⟩
theorem iX7_may_142 : am_jp 97 142 (.goto 4) 4 146 145 := ⟨by decide +kernel, by decide, rfl⟩
theorem iX7_may_145 : am_at 97 145 (.iconst 0) 1 146 := ⟨by decide +kernel, rfl⟩
theorem iX7_may_146 : am_at 97 146 (.iand) 1 147 := ⟨by decide +kernel, rfl⟩
theorem iX7_may_147 : am_at 97 147 (.istore 4) 2 149 := ⟨by decide +kernel, rfl⟩
theorem iX7_may_149 : am_at 97 149 (.iinc 5 1) 3 152 := ⟨by decide +kernel, rfl⟩
theorem iX7_may_152 : am_jp 97 152 (.goto (-59)) (-59) 93 155 := ⟨by decide +kernel, by decide, rfl⟩
theorem iX7_may_155 : am_at 97 155 (.iload 4) 2 157 := ⟨by decide +kernel, rfl⟩
theorem iX7_may_157 : am_at 97 157 (.ireturn) 1 158 := ⟨by decide +kernel, rfl⟩
theorem iX7_answer_0 : am_at 98 0 (.aload_n 0) 1 1 := ⟨by decide +kernel, rfl⟩
theorem iX7_answer_1 : am_at 98 1 (.getfield 78) 3 4 := ⟨by decide +kernel, rfl⟩
theorem fX7_answer_78 : am_fld 98 78 7 27 2 := ⟨by decide, rfl, wd_693⟩
theorem iX7_answer_4 : am_at 98 4 (.iload_n 2) 1 5 := ⟨by decide +kernel, rfl⟩
theorem iX7_answer_5 : am_at 98 5 (.iconst 1) 1 6 := ⟨by decide +kernel, rfl⟩
theorem iX7_answer_6 : am_at 98 6 (.iastore) 1 7 := ⟨by decide +kernel, rfl⟩
theorem iX7_answer_7 : am_at 98 7 (.aload_n 0) 1 8 := ⟨by decide +kernel, rfl⟩
theorem iX7_answer_8 : am_at 98 8 (.getfield 102) 3 11 := ⟨by decide +kernel, rfl⟩
theorem fX7_answer_102 : am_fld 98 102 7 35 2 := ⟨by decide, rfl, wd_701⟩
theorem iX7_answer_11 : am_at 98 11 (.iload_n 2) 1 12 := ⟨by decide +kernel, rfl⟩
theorem iX7_answer_12 : am_at 98 12 (.iload_n 1) 1 13 := ⟨by decide +kernel, rfl⟩
theorem iX7_answer_13 : am_at 98 13 (.iastore) 1 14 := ⟨by decide +kernel, rfl⟩
theorem iX7_answer_14 : am_at 98 14 (.aload_n 0) 1 15 := ⟨by decide +kernel, rfl⟩
theorem iX7_answer_15 : am_at 98 15 (.getfield 105) 3 18 := ⟨by decide +kernel, rfl⟩
theorem fX7_answer_105 : am_fld 98 105 7 36 2 := ⟨by decide, rfl, wd_702⟩
theorem iX7_answer_18 : am_at 98 18 (.iload_n 2) 1 19 := ⟨by decide +kernel, rfl⟩
theorem iX7_answer_19 : am_at 98 19 (.aload_n 0) 1 20 := ⟨by decide +kernel, rfl⟩
theorem iX7_answer_20 : am_at 98 20 (.iload_n 1) 1 21 := ⟨by decide +kernel, rfl⟩
theorem iX7_answer_21 : am_at 98 21 (.aload_n 0) 1 22 := ⟨by decide +kernel, rfl⟩
theorem iX7_answer_22 : am_at 98 22 (.getfield 96) 3 25 := ⟨by decide +kernel, rfl⟩
theorem fX7_answer_96 : am_fld 98 96 7 33 2 := ⟨by decide, rfl, wd_699⟩
theorem iX7_answer_25 : am_at 98 25 (.iload_n 2) 1 26 := ⟨by decide +kernel, rfl⟩
theorem iX7_answer_26 : am_at 98 26 (.iaload) 1 27 := ⟨by decide +kernel, rfl⟩
theorem iX7_answer_27 : am_at 98 27 (.aload_n 0) 1 28 := ⟨by decide +kernel, rfl⟩
theorem iX7_answer_28 : am_at 98 28 (.getfield 99) 3 31 := ⟨by decide +kernel, rfl⟩
theorem fX7_answer_99 : am_fld 98 99 7 34 2 := ⟨by decide, rfl, wd_700⟩
theorem iX7_answer_31 : am_at 98 31 (.iload_n 2) 1 32 := ⟨by decide +kernel, rfl⟩
theorem iX7_answer_32 : am_at 98 32 (.iaload) 1 33 := ⟨by decide +kernel, rfl⟩
theorem iX7_answer_33 : am_at 98 33 (.invokevirtual 228) 3 36 := ⟨by decide +kernel, rfl⟩
theorem cX7_answer_228 : am_sV 98 228 95 7 := ⟨wd_817, wd_819, wp_18, rfl, by decide⟩
theorem iX7_answer_36 : am_at 98 36 (.lastore) 1 37 := ⟨by decide +kernel, rfl⟩
theorem iX7_answer_37 : am_at 98 37 (.aload_n 0) 1 38 := ⟨by decide +kernel, rfl⟩
theorem iX7_answer_38 : am_at 98 38 (.getfield 108) 3 41 := ⟨by decide +kernel, rfl⟩
theorem fX7_answer_108 : am_fld 98 108 7 37 2 := ⟨by decide, rfl, wd_703⟩
theorem iX7_answer_41 : am_at 98 41 (.iload_n 2) 1 42 := ⟨by decide +kernel, rfl⟩
theorem iX7_answer_42 : am_at 98 42 (.aload_n 0) 1 43 := ⟨by decide +kernel, rfl⟩
theorem iX7_answer_43 : am_at 98 43 (.getfield 53) 3 46 := ⟨by decide +kernel, rfl⟩
theorem fX7_answer_53 : am_fld 98 53 7 18 2 := ⟨by decide, rfl, wd_684⟩
theorem iX7_answer_46 : am_at 98 46 (.iconst 3) 1 47 := ⟨by decide +kernel, rfl⟩
theorem iX7_answer_47 : am_at 98 47 (.iload_n 1) 1 48 := ⟨by decide +kernel, rfl⟩
theorem iX7_answer_48 : am_at 98 48 (.imul) 1 49 := ⟨by decide +kernel, rfl⟩
theorem iX7_answer_49 : am_at 98 49 (.iaload) 1 50 := ⟨by decide +kernel, rfl⟩
theorem iX7_answer_50 : am_at 98 50 (.aload_n 0) 1 51 := ⟨by decide +kernel, rfl⟩
theorem iX7_answer_51 : am_at 98 51 (.getfield 53) 3 54 := ⟨by decide +kernel, rfl⟩
theorem iX7_answer_54 : am_at 98 54 (.iconst 3) 1 55 := ⟨by decide +kernel, rfl⟩
theorem iX7_answer_55 : am_at 98 55 (.iload_n 1) 1 56 := ⟨by decide +kernel, rfl⟩
theorem iX7_answer_56 : am_at 98 56 (.imul) 1 57 := ⟨by decide +kernel, rfl⟩
theorem iX7_answer_57 : am_at 98 57 (.iconst 1) 1 58 := ⟨by decide +kernel, rfl⟩
theorem iX7_answer_58 : am_at 98 58 (.iadd) 1 59 := ⟨by decide +kernel, rfl⟩
theorem iX7_answer_59 : am_at 98 59 (.iaload) 1 60 := ⟨by decide +kernel, rfl⟩
theorem iX7_answer_60 : am_at 98 60 (.aload_n 0) 1 61 := ⟨by decide +kernel, rfl⟩
theorem iX7_answer_61 : am_at 98 61 (.getfield 53) 3 64 := ⟨by decide +kernel, rfl⟩
theorem iX7_answer_64 : am_at 98 64 (.iconst 3) 1 65 := ⟨by decide +kernel, rfl⟩
theorem iX7_answer_65 : am_at 98 65 (.iload_n 1) 1 66 := ⟨by decide +kernel, rfl⟩
theorem iX7_answer_66 : am_at 98 66 (.imul) 1 67 := ⟨by decide +kernel, rfl⟩
theorem iX7_answer_67 : am_at 98 67 (.iconst 2) 1 68 := ⟨by decide +kernel, rfl⟩
theorem iX7_answer_68 : am_at 98 68 (.iadd) 1 69 := ⟨by decide +kernel, rfl⟩
theorem iX7_answer_69 : am_at 98 69 (.iaload) 1 70 := ⟨by decide +kernel, rfl⟩
theorem iX7_answer_70 : am_at 98 70 (.invokestatic 177) 3 73 := ⟨by decide +kernel, rfl⟩
theorem cX7_answer_177 : am_sS 98 177 71 := ⟨wd_825, wd_826, wd_6⟩
theorem iX7_answer_73 : am_at 98 73 (.lastore) 1 74 := ⟨by decide +kernel, rfl⟩
theorem iX7_answer_74 : am_at 98 74 (.aload_n 0) 1 75 := ⟨by decide +kernel, rfl⟩
theorem iX7_answer_75 : am_at 98 75 (.getfield 111) 3 78 := ⟨by decide +kernel, rfl⟩
theorem fX7_answer_111 : am_fld 98 111 7 38 2 := ⟨by decide, rfl, wd_704⟩
theorem iX7_answer_78 : am_at 98 78 (.iload_n 2) 1 79 := ⟨by decide +kernel, rfl⟩
theorem iX7_answer_79 : am_at 98 79 (.aload_n 0) 1 80 := ⟨by decide +kernel, rfl⟩
theorem iX7_answer_80 : am_at 98 80 (.getfield 201) 3 83 := ⟨by decide +kernel, rfl⟩
theorem fX7_answer_201 : am_fld 98 201 7 3 0 := ⟨by decide, rfl, wd_669⟩
theorem iX7_answer_83 : am_at 98 83 (.iastore) 1 84 := ⟨by decide +kernel, rfl⟩
theorem iX7_answer_84 : am_at 98 84 (.iconst 0) 1 85 := ⟨by decide +kernel, rfl⟩
theorem iX7_answer_85 : am_at 98 85 (.istore_n 3) 1 86 := ⟨by decide +kernel, rfl⟩
theorem iX7_answer_86 : am_at 98 86 (.iload_n 3) 1 87 := ⟨by decide +kernel, rfl⟩
theorem iX7_answer_87 : am_at 98 87 (.aload_n 0) 1 88 := ⟨by decide +kernel, rfl⟩
theorem iX7_answer_88 : am_at 98 88 (.getfield 114) 3 91 := ⟨by decide +kernel, rfl⟩
theorem fX7_answer_114 : am_fld 98 114 7 0 0 := ⟨by decide, rfl, wd_666⟩
theorem iX7_answer_91 : am_jp 98 91 (.if_icmp .ge 52) 52 143 94 := ⟨by decide +kernel, by decide, rfl⟩
theorem iX7_answer_94 : am_at 98 94 (.aload_n 0) 1 95 := ⟨by decide +kernel, rfl⟩
theorem iX7_answer_95 : am_at 98 95 (.getfield 75) 3 98 := ⟨by decide +kernel, rfl⟩
theorem fX7_answer_75 : am_fld 98 75 7 25 2 := ⟨by decide, rfl, wd_691⟩
theorem iX7_answer_98 : am_at 98 98 (.iconst 3) 1 99 := ⟨by decide +kernel, rfl⟩
theorem iX7_answer_99 : am_at 98 99 (.aload_n 0) 1 100 := ⟨by decide +kernel, rfl⟩
theorem iX7_answer_100 : am_at 98 100 (.getfield 81) 3 103 := ⟨by decide +kernel, rfl⟩
theorem fX7_answer_81 : am_fld 98 81 7 28 2 := ⟨by decide, rfl, wd_694⟩
theorem iX7_answer_103 : am_at 98 103 (.iload_n 2) 1 104 := ⟨by decide +kernel, rfl⟩
theorem iX7_answer_104 : am_at 98 104 (.iaload) 1 105 := ⟨by decide +kernel, rfl⟩
theorem iX7_answer_105 : am_at 98 105 (.imul) 1 106 := ⟨by decide +kernel, rfl⟩
theorem iX7_answer_106 : am_at 98 106 (.iload_n 3) 1 107 := ⟨by decide +kernel, rfl⟩
theorem iX7_answer_107 : am_at 98 107 (.iadd) 1 108 := ⟨by decide +kernel, rfl⟩
theorem iX7_answer_108 : am_at 98 108 (.aload_n 0) 1 109 := ⟨by decide +kernel, rfl⟩
theorem iX7_answer_109 : am_at 98 109 (.getfield 75) 3 112 := ⟨by decide +kernel, rfl⟩
theorem iX7_answer_112 : am_at 98 112 (.iconst 3) 1 113 := ⟨by decide +kernel, rfl⟩
theorem iX7_answer_113 : am_at 98 113 (.aload_n 0) 1 114 := ⟨by decide +kernel, rfl⟩
theorem iX7_answer_114 : am_at 98 114 (.getfield 81) 3 117 := ⟨by decide +kernel, rfl⟩
theorem iX7_answer_117 : am_at 98 117 (.iload_n 2) 1 118 := ⟨by decide +kernel, rfl⟩
theorem iX7_answer_118 : am_at 98 118 (.iaload) 1 119 := ⟨by decide +kernel, rfl⟩
theorem iX7_answer_119 : am_at 98 119 (.imul) 1 120 := ⟨by decide +kernel, rfl⟩
theorem iX7_answer_120 : am_at 98 120 (.iload_n 3) 1 121 := ⟨by decide +kernel, rfl⟩
theorem iX7_answer_121 : am_at 98 121 (.iadd) 1 122 := ⟨by decide +kernel, rfl⟩
theorem iX7_answer_122 : am_at 98 122 (.iaload) 1 123 := ⟨by decide +kernel, rfl⟩
theorem iX7_answer_123 : am_at 98 123 (.aload_n 0) 1 124 := ⟨by decide +kernel, rfl⟩
theorem iX7_answer_124 : am_at 98 124 (.getfield 53) 3 127 := ⟨by decide +kernel, rfl⟩
theorem iX7_answer_127 : am_at 98 127 (.iconst 3) 1 128 := ⟨by decide +kernel, rfl⟩
theorem iX7_answer_128 : am_at 98 128 (.iload_n 1) 1 129 := ⟨by decide +kernel, rfl⟩
theorem iX7_answer_129 : am_at 98 129 (.imul) 1 130 := ⟨by decide +kernel, rfl⟩
theorem iX7_answer_130 : am_at 98 130 (.iload_n 3) 1 131 := ⟨by decide +kernel, rfl⟩
theorem iX7_answer_131 : am_at 98 131 (.iadd) 1 132 := ⟨by decide +kernel, rfl⟩
theorem iX7_answer_132 : am_at 98 132 (.iaload) 1 133 := ⟨by decide +kernel, rfl⟩
theorem iX7_answer_133 : am_at 98 133 (.invokestatic 173) 3 136 := ⟨by decide +kernel, rfl⟩
theorem cX7_answer_173 : am_sS 98 173 67 := ⟨wd_835, wd_836, wd_6⟩
theorem iX7_answer_136 : am_at 98 136 (.iastore) 1 137 := ⟨by decide +kernel, rfl⟩
theorem iX7_answer_137 : am_at 98 137 (.iinc 3 1) 3 140 := ⟨by decide +kernel, rfl⟩
theorem iX7_answer_140 : am_jp 98 140 (.goto (-54)) (-54) 86 143 := ⟨by decide +kernel, by decide, rfl⟩
theorem iX7_answer_143 : am_at 98 143 (.return_) 1 144 := ⟨by decide +kernel, rfl⟩
theorem iX7_look_0 : am_at 99 0 (.iconst 0) 1 1 := ⟨by decide +kernel, rfl⟩
theorem iX7_look_1 : am_at 99 1 (.istore_n 2) 1 2 := ⟨by decide +kernel, rfl⟩
theorem iX7_look_2 : am_at 99 2 (.iload_n 2) 1 3 := ⟨by decide +kernel, rfl⟩
theorem iX7_look_3 : am_at 99 3 (.aload_n 0) 1 4 := ⟨by decide +kernel, rfl⟩
theorem iX7_look_4 : am_at 99 4 (.getfield 204) 3 7 := ⟨by decide +kernel, rfl⟩
theorem fX7_look_204 : am_fld 99 204 7 26 0 := ⟨by decide, rfl, wd_692⟩
theorem iX7_look_7 : am_jp 99 7 (.if_icmp .ge 33) 33 40 10 := ⟨by decide +kernel, by decide, rfl⟩
theorem iX7_look_10 : am_at 99 10 (.aload_n 0) 1 11 := ⟨by decide +kernel, rfl⟩
theorem iX7_look_11 : am_at 99 11 (.getfield 78) 3 14 := ⟨by decide +kernel, rfl⟩
theorem fX7_look_78 : am_fld 99 78 7 27 2 := ⟨by decide, rfl, wd_693⟩
theorem iX7_look_14 : am_at 99 14 (.iload_n 2) 1 15 := ⟨by decide +kernel, rfl⟩
theorem iX7_look_15 : am_at 99 15 (.iaload) 1 16 := ⟨by decide +kernel, rfl⟩
theorem iX7_look_16 : am_jp 99 16 (.ifCond .ne 18) 18 34 19 := ⟨by decide +kernel, by decide, rfl⟩
theorem iX7_look_19 : am_at 99 19 (.aload_n 0) 1 20 := ⟨by decide +kernel, rfl⟩
theorem iX7_look_20 : am_at 99 20 (.iload_n 1) 1 21 := ⟨by decide +kernel, rfl⟩
theorem iX7_look_21 : am_at 99 21 (.iload_n 2) 1 22 := ⟨by decide +kernel, rfl⟩
theorem iX7_look_22 : am_at 99 22 (.invokevirtual 231) 3 25 := ⟨by decide +kernel, rfl⟩
theorem cX7_look_231 : am_sV 99 231 97 7 := ⟨wd_805, wd_807, wp_15, rfl, by decide⟩
theorem iX7_look_25 : am_jp 99 25 (.ifCond .eq 9) 9 34 28 := ⟨by decide +kernel, by decide, rfl⟩
theorem iX7_look_28 : am_at 99 28 (.aload_n 0) 1 29 := ⟨by decide +kernel, rfl⟩
theorem iX7_look_29 : am_at 99 29 (.iload_n 1) 1 30 := ⟨by decide +kernel, rfl⟩
theorem iX7_look_30 : am_at 99 30 (.iload_n 2) 1 31 := ⟨by decide +kernel, rfl⟩
theorem iX7_look_31 : am_at 99 31 (.invokevirtual 235) 3 34 := ⟨by decide +kernel, rfl⟩
theorem cX7_look_235 : am_sV 99 235 98 7 := ⟨wd_813, wd_815, wp_17, rfl, by decide⟩
theorem iX7_look_34 : am_at 99 34 (.iinc 2 1) 3 37 := ⟨by decide +kernel, rfl⟩
theorem iX7_look_37 : am_jp 99 37 (.goto (-35)) (-35) 2 40 := ⟨by decide +kernel, by decide, rfl⟩
theorem iX7_look_40 : am_at 99 40 (.return_) 1 41 := ⟨by decide +kernel, rfl⟩
theorem iX7_waiting_0 : am_at 100 0 (.iconst 0) 1 1 := ⟨by decide +kernel, rfl⟩
theorem iX7_waiting_1 : am_at 100 1 (.istore_n 1) 1 2 := ⟨by decide +kernel, rfl⟩
theorem iX7_waiting_2 : am_at 100 2 (.iconst 0) 1 3 := ⟨by decide +kernel, rfl⟩
theorem iX7_waiting_3 : am_at 100 3 (.istore_n 2) 1 4 := ⟨by decide +kernel, rfl⟩
theorem iX7_waiting_4 : am_at 100 4 (.iload_n 2) 1 5 := ⟨by decide +kernel, rfl⟩
theorem iX7_waiting_5 : am_at 100 5 (.aload_n 0) 1 6 := ⟨by decide +kernel, rfl⟩
theorem iX7_waiting_6 : am_at 100 6 (.getfield 204) 3 9 := ⟨by decide +kernel, rfl⟩
theorem fX7_waiting_204 : am_fld 100 204 7 26 0 := ⟨by decide, rfl, wd_692⟩
theorem iX7_waiting_9 : am_jp 100 9 (.if_icmp .ge 26) 26 35 12 := ⟨by decide +kernel, by decide, rfl⟩
theorem iX7_waiting_12 : am_at 100 12 (.iload_n 1) 1 13 := ⟨by decide +kernel, rfl⟩
theorem iX7_waiting_13 : am_at 100 13 (.aload_n 0) 1 14 := ⟨by decide +kernel, rfl⟩
theorem iX7_waiting_14 : am_at 100 14 (.getfield 78) 3 17 := ⟨by decide +kernel, rfl⟩
theorem fX7_waiting_78 : am_fld 100 78 7 27 2 := ⟨by decide, rfl, wd_693⟩
theorem iX7_waiting_17 : am_at 100 17 (.iload_n 2) 1 18 := ⟨by decide +kernel, rfl⟩
theorem iX7_waiting_18 : am_at 100 18 (.iaload) 1 19 := ⟨by decide +kernel, rfl⟩
theorem iX7_waiting_19 : am_jp 100 19 (.ifCond .ne 7) 7 26 22 := ⟨by decide +kernel, by decide, rfl⟩
theorem iX7_waiting_22 : am_at 100 22 (.iconst 1) 1 23 := ⟨by decide +kernel, rfl⟩
theorem iX7_waiting_23 : am_jp 100 23 (.goto 4) 4 27 26 := ⟨by decide +kernel, by decide, rfl⟩
theorem iX7_waiting_26 : am_at 100 26 (.iconst 0) 1 27 := ⟨by decide +kernel, rfl⟩
theorem iX7_waiting_27 : am_at 100 27 (.iadd) 1 28 := ⟨by decide +kernel, rfl⟩
theorem iX7_waiting_28 : am_at 100 28 (.istore_n 1) 1 29 := ⟨by decide +kernel, rfl⟩
theorem iX7_waiting_29 : am_at 100 29 (.iinc 2 1) 3 32 := ⟨by decide +kernel, rfl⟩
theorem iX7_waiting_32 : am_jp 100 32 (.goto (-28)) (-28) 4 35 := ⟨by decide +kernel, by decide, rfl⟩
theorem iX7_waiting_35 : am_at 100 35 (.iload_n 1) 1 36 := ⟨by decide +kernel, rfl⟩
theorem iX7_waiting_36 : am_at 100 36 (.ireturn) 1 37 := ⟨by decide +kernel, rfl⟩
end
section
theorem iX7_ask_0 : am_at 101 0 (.aload_n 0) 1 1 := ⟨by decide +kernel, rfl⟩
theorem iX7_ask_1 : am_at 101 1 (.lload_n 2) 1 2 := ⟨by decide +kernel, rfl⟩
theorem iX7_ask_2 : am_at 101 2 (.invokevirtual 237) 3 5 := ⟨by decide +kernel, rfl⟩
theorem cX7_ask_237 : am_sV 101 237 73 7 := ⟨wd_920, wd_922, wp_28, rfl, by decide⟩
theorem iX7_ask_5 : am_jp 101 5 (.ifCond .eq 35) 35 40 8 := ⟨by decide +kernel, by decide, rfl⟩
theorem iX7_ask_8 : am_at 101 8 (.iload 4) 2 10 := ⟨by decide +kernel, rfl⟩
theorem iX7_ask_10 : am_at 101 10 (.i2l) 1 11 := ⟨by decide +kernel, rfl⟩
theorem iX7_ask_11 : am_at 101 11 (.ldc2_w 223) 3 14 := ⟨by decide +kernel, rfl⟩
theorem iX7_ask_14 : am_at 101 14 (.ldc2_w 241) 3 17 := ⟨by decide +kernel, rfl⟩
theorem iX7_ask_17 : am_at 101 17 (.invokestatic 148) 3 20 := ⟨by decide +kernel, rfl⟩
theorem cX7_ask_148 : am_sS 101 148 69 := ⟨wd_797, wd_798, wd_6⟩
theorem iX7_ask_20 : am_jp 101 20 (.ifCond .eq 20) 20 40 23 := ⟨by decide +kernel, by decide, rfl⟩
theorem iX7_ask_23 : am_at 101 23 (.iload 5) 2 25 := ⟨by decide +kernel, rfl⟩
theorem iX7_ask_25 : am_at 101 25 (.i2l) 1 26 := ⟨by decide +kernel, rfl⟩
theorem iX7_ask_26 : am_at 101 26 (.lconst 0) 1 27 := ⟨by decide +kernel, rfl⟩
theorem iX7_ask_27 : am_at 101 27 (.ldc2_w 171) 3 30 := ⟨by decide +kernel, rfl⟩
theorem iX7_ask_30 : am_at 101 30 (.invokestatic 148) 3 33 := ⟨by decide +kernel, rfl⟩
theorem iX7_ask_33 : am_jp 101 33 (.ifCond .eq 7) 7 40 36 := ⟨by decide +kernel, by decide, rfl⟩
theorem iX7_ask_36 : am_at 101 36 (.iconst 1) 1 37 := ⟨by decide +kernel, rfl⟩
theorem iX7_ask_37 : am_jp 101 37 (.goto 4) 4 41 40 := ⟨by decide +kernel, by decide, rfl⟩
theorem iX7_ask_40 : am_at 101 40 (.iconst 0) 1 41 := ⟨by decide +kernel, rfl⟩
theorem iX7_ask_41 : am_at 101 41 (.istore 8) 2 43 := ⟨by decide +kernel, rfl⟩
theorem iX7_ask_43 : am_at 101 43 (.aload_n 0) 1 44 := ⟨by decide +kernel, rfl⟩
theorem iX7_ask_44 : am_at 101 44 (.iload_n 1) 1 45 := ⟨by decide +kernel, rfl⟩
theorem iX7_ask_45 : am_at 101 45 (.invokestatic 152) 3 48 := ⟨by decide +kernel, rfl⟩
theorem cX7_ask_152 : am_sS 101 152 74 := ⟨wd_793, wd_794, wd_6⟩
theorem iX7_ask_48 : am_jp 101 48 (.ifCond .eq 14) 14 62 51 := ⟨by decide +kernel, by decide, rfl⟩
theorem iX7_ask_51 : am_at 101 51 (.aload_n 0) 1 52 := ⟨by decide +kernel, rfl⟩
theorem iX7_ask_52 : am_at 101 52 (.iload 6) 2 54 := ⟨by decide +kernel, rfl⟩
theorem iX7_ask_54 : am_at 101 54 (.iload 7) 2 56 := ⟨by decide +kernel, rfl⟩
theorem iX7_ask_56 : am_at 101 56 (.invokevirtual 243) 3 59 := ⟨by decide +kernel, rfl⟩
theorem cX7_ask_243 : am_sV 101 243 94 7 := ⟨wd_932, wd_934, wp_29, rfl, by decide⟩
theorem iX7_ask_59 : am_jp 101 59 (.ifCond .ne 7) 7 66 62 := ⟨by decide +kernel, by decide, rfl⟩
theorem iX7_ask_62 : am_at 101 62 (.iconst 1) 1 63 := ⟨by decide +kernel, rfl⟩
theorem iX7_ask_63 : am_jp 101 63 (.goto 27) 27 90 66 := ⟨by decide +kernel, by decide, rfl⟩
theorem iX7_ask_66 : am_at 101 66 (.iload 8) 2 68 := ⟨by decide +kernel, rfl⟩
theorem iX7_ask_68 : am_jp 101 68 (.ifCond .ne 7) 7 75 71 := ⟨by decide +kernel, by decide, rfl⟩
theorem iX7_ask_71 : am_at 101 71 (.iconst 2) 1 72 := ⟨by decide +kernel, rfl⟩
theorem iX7_ask_72 : am_jp 101 72 (.goto 18) 18 90 75 := ⟨by decide +kernel, by decide, rfl⟩
theorem iX7_ask_75 : am_at 101 75 (.aload_n 0) 1 76 := ⟨by decide +kernel, rfl⟩
theorem iX7_ask_76 : am_at 101 76 (.getfield 204) 3 79 := ⟨by decide +kernel, rfl⟩
theorem fX7_ask_204 : am_fld 101 204 7 26 0 := ⟨by decide, rfl, wd_692⟩
theorem iX7_ask_79 : am_at 101 79 (.sipush 500) 3 82 := ⟨by decide +kernel, rfl⟩
theorem iX7_ask_82 : am_jp 101 82 (.if_icmp .ne 7) 7 89 85 := ⟨by decide +kernel, by decide, rfl⟩
theorem iX7_ask_85 : am_at 101 85 (.iconst 3) 1 86 := ⟨by decide +kernel, rfl⟩
theorem iX7_ask_86 : am_jp 101 86 (.goto 4) 4 90 89 := ⟨by decide +kernel, by decide, rfl⟩
theorem iX7_ask_89 : am_at 101 89 (.iconst 0) 1 90 := ⟨by decide +kernel, rfl⟩
theorem iX7_ask_90 : am_at 101 90 (.putfield 121) 3 93 := ⟨by decide +kernel, rfl⟩
theorem fX7_ask_121 : am_fld 101 121 7 2 0 := ⟨by decide, rfl, wd_668⟩
theorem iX7_ask_93 : am_at 101 93 (.aload_n 0) 1 94 := ⟨by decide +kernel, rfl⟩
theorem iX7_ask_94 : am_at 101 94 (.getfield 121) 3 97 := ⟨by decide +kernel, rfl⟩
theorem iX7_ask_97 : am_jp 101 97 (.ifCond .le 5) 5 102 100 := ⟨by decide +kernel, by decide, rfl⟩
theorem iX7_ask_100 : am_at 101 100 (.iconst 0) 1 101 := ⟨by decide +kernel, rfl⟩
theorem iX7_ask_101 : am_at 101 101 (.ireturn) 1 102 := ⟨by decide +kernel, rfl⟩
theorem iX7_ask_102 : am_at 101 102 (.aload_n 0) 1 103 := ⟨by decide +kernel, rfl⟩
theorem iX7_ask_103 : am_at 101 103 (.getfield 204) 3 106 := ⟨by decide +kernel, rfl⟩
theorem iX7_ask_106 : am_at 101 106 (.istore 9) 2 108 := ⟨by decide +kernel, rfl⟩
theorem iX7_ask_108 : am_at 101 108 (.aload_n 0) 1 109 := ⟨by decide +kernel, rfl⟩
theorem iX7_ask_109 : am_at 101 109 (.getfield 81) 3 112 := ⟨by decide +kernel, rfl⟩
theorem fX7_ask_81 : am_fld 101 81 7 28 2 := ⟨by decide, rfl, wd_694⟩
theorem iX7_ask_112 : am_at 101 112 (.iload 9) 2 114 := ⟨by decide +kernel, rfl⟩
theorem iX7_ask_114 : am_at 101 114 (.iload_n 1) 1 115 := ⟨by decide +kernel, rfl⟩
theorem iX7_ask_115 : am_at 101 115 (.iastore) 1 116 := ⟨by decide +kernel, rfl⟩
theorem iX7_ask_116 : am_at 101 116 (.iconst 0) 1 117 := ⟨by decide +kernel, rfl⟩
theorem iX7_ask_117 : am_at 101 117 (.istore 10) 2 119 := ⟨by decide +kernel, rfl⟩
theorem iX7_ask_119 : am_at 101 119 (.iload 10) 2 121 := ⟨by decide +kernel, rfl⟩
theorem iX7_ask_121 : am_at 101 121 (.iconst 3) 1 122 := ⟨by decide +kernel, rfl⟩
theorem iX7_ask_122 : am_jp 101 122 (.if_icmp .ge 27) 27 149 125 := ⟨by decide +kernel, by decide, rfl⟩
theorem iX7_ask_125 : am_at 101 125 (.aload_n 0) 1 126 := ⟨by decide +kernel, rfl⟩
theorem iX7_ask_126 : am_at 101 126 (.getfield 84) 3 129 := ⟨by decide +kernel, rfl⟩
theorem fX7_ask_84 : am_fld 101 84 7 29 2 := ⟨by decide, rfl, wd_695⟩
theorem iX7_ask_129 : am_at 101 129 (.iconst 3) 1 130 := ⟨by decide +kernel, rfl⟩
theorem iX7_ask_130 : am_at 101 130 (.iload 9) 2 132 := ⟨by decide +kernel, rfl⟩
theorem iX7_ask_132 : am_at 101 132 (.imul) 1 133 := ⟨by decide +kernel, rfl⟩
theorem iX7_ask_133 : am_at 101 133 (.iload 10) 2 135 := ⟨by decide +kernel, rfl⟩
theorem iX7_ask_135 : am_at 101 135 (.iadd) 1 136 := ⟨by decide +kernel, rfl⟩
theorem iX7_ask_136 : am_at 101 136 (.lload_n 2) 1 137 := ⟨by decide +kernel, rfl⟩
theorem iX7_ask_137 : am_at 101 137 (.iload 10) 2 139 := ⟨by decide +kernel, rfl⟩
theorem iX7_ask_139 : am_at 101 139 (.invokestatic 142) 3 142 := ⟨by decide +kernel, rfl⟩
theorem cX7_ask_142 : am_sS 101 142 72 := ⟨wd_926, wd_927, wd_6⟩
theorem iX7_ask_142 : am_at 101 142 (.iastore) 1 143 := ⟨by decide +kernel, rfl⟩
theorem iX7_ask_143 : am_at 101 143 (.iinc 10 1) 3 146 := ⟨by decide +kernel, rfl⟩
theorem iX7_ask_146 : am_jp 101 146 (.goto (-27)) (-27) 119 149 := ⟨by decide +kernel, by decide, rfl⟩
theorem iX7_ask_149 : am_at 101 149 (.aload_n 0) 1 150 := ⟨by decide +kernel, rfl⟩
theorem iX7_ask_150 : am_at 101 150 (.getfield 87) 3 153 := ⟨by decide +kernel, rfl⟩
theorem fX7_ask_87 : am_fld 101 87 7 30 2 := ⟨by decide, rfl, wd_696⟩
theorem iX7_ask_153 : am_at 101 153 (.iload 9) 2 155 := ⟨by decide +kernel, rfl⟩
theorem iX7_ask_155 : am_at 101 155 (.iload 4) 2 157 := ⟨by decide +kernel, rfl⟩
theorem iX7_ask_157 : am_at 101 157 (.iastore) 1 158 := ⟨by decide +kernel, rfl⟩
theorem iX7_ask_158 : am_at 101 158 (.aload_n 0) 1 159 := ⟨by decide +kernel, rfl⟩
theorem iX7_ask_159 : am_at 101 159 (.getfield 90) 3 162 := ⟨by decide +kernel, rfl⟩
theorem fX7_ask_90 : am_fld 101 90 7 31 2 := ⟨by decide, rfl, wd_697⟩
theorem iX7_ask_162 : am_at 101 162 (.iload 9) 2 164 := ⟨by decide +kernel, rfl⟩
theorem iX7_ask_164 : am_at 101 164 (.iload 5) 2 166 := ⟨by decide +kernel, rfl⟩
theorem iX7_ask_166 : am_at 101 166 (.iastore) 1 167 := ⟨by decide +kernel, rfl⟩
theorem iX7_ask_167 : am_at 101 167 (.aload_n 0) 1 168 := ⟨by decide +kernel, rfl⟩
theorem iX7_ask_168 : am_at 101 168 (.getfield 93) 3 171 := ⟨by decide +kernel, rfl⟩
theorem fX7_ask_93 : am_fld 101 93 7 32 2 := ⟨by decide, rfl, wd_698⟩
theorem iX7_ask_171 : am_at 101 171 (.iload 9) 2 173 := ⟨by decide +kernel, rfl⟩
theorem iX7_ask_173 : am_at 101 173 (.aload_n 0) 1 174 := ⟨by decide +kernel, rfl⟩
theorem iX7_ask_174 : am_at 101 174 (.getfield 201) 3 177 := ⟨by decide +kernel, rfl⟩
theorem fX7_ask_201 : am_fld 101 201 7 3 0 := ⟨by decide, rfl, wd_669⟩
theorem iX7_ask_177 : am_at 101 177 (.iastore) 1 178 := ⟨by decide +kernel, rfl⟩
theorem iX7_ask_178 : am_at 101 178 (.aload_n 0) 1 179 := ⟨by decide +kernel, rfl⟩
theorem iX7_ask_179 : am_at 101 179 (.getfield 96) 3 182 := ⟨by decide +kernel, rfl⟩
theorem fX7_ask_96 : am_fld 101 96 7 33 2 := ⟨by decide, rfl, wd_699⟩
theorem iX7_ask_182 : am_at 101 182 (.iload 9) 2 184 := ⟨by decide +kernel, rfl⟩
theorem iX7_ask_184 : am_at 101 184 (.iload 6) 2 186 := ⟨by decide +kernel, rfl⟩
theorem iX7_ask_186 : am_at 101 186 (.iastore) 1 187 := ⟨by decide +kernel, rfl⟩
theorem iX7_ask_187 : am_at 101 187 (.aload_n 0) 1 188 := ⟨by decide +kernel, rfl⟩
theorem iX7_ask_188 : am_at 101 188 (.getfield 99) 3 191 := ⟨by decide +kernel, rfl⟩
theorem fX7_ask_99 : am_fld 101 99 7 34 2 := ⟨by decide, rfl, wd_700⟩
theorem iX7_ask_191 : am_at 101 191 (.iload 9) 2 193 := ⟨by decide +kernel, rfl⟩
theorem iX7_ask_193 : am_at 101 193 (.iload 7) 2 195 := ⟨by decide +kernel, rfl⟩
theorem iX7_ask_195 : am_at 101 195 (.iastore) 1 196 := ⟨by decide +kernel, rfl⟩
theorem iX7_ask_196 : am_at 101 196 (.aload_n 0) 1 197 := ⟨by decide +kernel, rfl⟩
theorem iX7_ask_197 : am_at 101 197 (.getfield 102) 3 200 := ⟨by decide +kernel, rfl⟩
theorem fX7_ask_102 : am_fld 101 102 7 35 2 := ⟨by decide, rfl, wd_701⟩
theorem iX7_ask_200 : am_at 101 200 (.iload 9) 2 202 := ⟨by decide +kernel, rfl⟩
theorem iX7_ask_202 : am_at 101 202 (.iconst (-1)) 1 203 := ⟨by decide +kernel, rfl⟩
theorem iX7_ask_203 : am_at 101 203 (.iastore) 1 204 := ⟨by decide +kernel, rfl⟩
theorem iX7_ask_204 : am_at 101 204 (.aload_n 0) 1 205 := ⟨by decide +kernel, rfl⟩
theorem iX7_ask_205 : am_at 101 205 (.getfield 105) 3 208 := ⟨by decide +kernel, rfl⟩
theorem fX7_ask_105 : am_fld 101 105 7 36 2 := ⟨by decide, rfl, wd_702⟩
theorem iX7_ask_208 : am_at 101 208 (.iload 9) 2 210 := ⟨by decide +kernel, rfl⟩
theorem iX7_ask_210 : am_at 101 210 (.lconst 0) 1 211 := ⟨by decide +kernel, rfl⟩
theorem iX7_ask_211 : am_at 101 211 (.lastore) 1 212 := ⟨by decide +kernel, rfl⟩
theorem iX7_ask_212 : am_at 101 212 (.aload_n 0) 1 213 := ⟨by decide +kernel, rfl⟩
theorem iX7_ask_213 : am_at 101 213 (.getfield 108) 3 216 := ⟨by decide +kernel, rfl⟩
theorem fX7_ask_108 : am_fld 101 108 7 37 2 := ⟨by decide, rfl, wd_703⟩
theorem iX7_ask_216 : am_at 101 216 (.iload 9) 2 218 := ⟨by decide +kernel, rfl⟩
theorem iX7_ask_218 : am_at 101 218 (.lconst 0) 1 219 := ⟨by decide +kernel, rfl⟩
theorem iX7_ask_219 : am_at 101 219 (.lastore) 1 220 := ⟨by decide +kernel, rfl⟩
theorem iX7_ask_220 : am_at 101 220 (.aload_n 0) 1 221 := ⟨by decide +kernel, rfl⟩
theorem iX7_ask_221 : am_at 101 221 (.getfield 111) 3 224 := ⟨by decide +kernel, rfl⟩
theorem fX7_ask_111 : am_fld 101 111 7 38 2 := ⟨by decide, rfl, wd_704⟩
theorem iX7_ask_224 : am_at 101 224 (.iload 9) 2 226 := ⟨by decide +kernel, rfl⟩
theorem iX7_ask_226 : am_at 101 226 (.iconst (-1)) 1 227 := ⟨by decide +kernel, rfl⟩
theorem iX7_ask_227 : am_at 101 227 (.iastore) 1 228 := ⟨by decide +kernel, rfl⟩
theorem iX7_ask_228 : am_at 101 228 (.iconst 0) 1 229 := ⟨by decide +kernel, rfl⟩
theorem iX7_ask_229 : am_at 101 229 (.istore 10) 2 231 := ⟨by decide +kernel, rfl⟩
theorem iX7_ask_231 : am_at 101 231 (.iload 10) 2 233 := ⟨by decide +kernel, rfl⟩
theorem iX7_ask_233 : am_at 101 233 (.aload_n 0) 1 234 := ⟨by decide +kernel, rfl⟩
theorem iX7_ask_234 : am_at 101 234 (.getfield 118) 3 237 := ⟨by decide +kernel, rfl⟩
theorem fX7_ask_118 : am_fld 101 118 7 1 0 := ⟨by decide, rfl, wd_667⟩
theorem iX7_ask_237 : am_jp 101 237 (.if_icmp .ge 32) 32 269 240 := ⟨by decide +kernel, by decide, rfl⟩
theorem iX7_ask_240 : am_at 101 240 (.aload_n 0) 1 241 := ⟨by decide +kernel, rfl⟩
theorem iX7_ask_241 : am_at 101 241 (.aload_n 0) 1 242 := ⟨by decide +kernel, rfl⟩
theorem iX7_ask_242 : am_at 101 242 (.getfield 69) 3 245 := ⟨by decide +kernel, rfl⟩
theorem fX7_ask_69 : am_fld 101 69 7 23 2 := ⟨by decide, rfl, wd_689⟩
theorem iX7_ask_245 : am_at 101 245 (.iload_n 1) 1 246 := ⟨by decide +kernel, rfl⟩
theorem iX7_ask_246 : am_at 101 246 (.iaload) 1 247 := ⟨by decide +kernel, rfl⟩
theorem iX7_ask_247 : am_at 101 247 (.iload 10) 2 249 := ⟨by decide +kernel, rfl⟩
theorem iX7_ask_249 : am_at 101 249 (.iadd) 1 250 := ⟨by decide +kernel, rfl⟩
theorem iX7_ask_250 : am_at 101 250 (.aload_n 0) 1 251 := ⟨by decide +kernel, rfl⟩
theorem iX7_ask_251 : am_at 101 251 (.getfield 118) 3 254 := ⟨by decide +kernel, rfl⟩
theorem iX7_ask_254 : am_at 101 254 (.irem) 1 255 := ⟨by decide +kernel, rfl⟩
theorem iX7_ask_255 : am_at 101 255 (.iload 9) 2 257 := ⟨by decide +kernel, rfl⟩
theorem iX7_ask_257 : am_at 101 257 (.invokevirtual 231) 3 260 := ⟨by decide +kernel, rfl⟩
theorem cX7_ask_231 : am_sV 101 231 97 7 := ⟨wd_805, wd_807, wp_15, rfl, by decide⟩
theorem iX7_ask_260 : am_jp 101 260 (.ifCond .ne 9) 9 269 263 := ⟨by decide +kernel, by decide, rfl⟩
theorem iX7_ask_263 : am_at 101 263 (.iinc 10 1) 3 266 := ⟨by decide +kernel, rfl⟩
theorem iX7_ask_266 : am_jp 101 266 (.goto (-35)) (-35) 231 269 := ⟨by decide +kernel, by decide, rfl⟩
theorem iX7_ask_269 : am_at 101 269 (.aload_n 0) 1 270 := ⟨by decide +kernel, rfl⟩
theorem iX7_ask_270 : am_at 101 270 (.iload 10) 2 272 := ⟨by decide +kernel, rfl⟩
theorem iX7_ask_272 : am_at 101 272 (.aload_n 0) 1 273 := ⟨by decide +kernel, rfl⟩
theorem iX7_ask_273 : am_at 101 273 (.getfield 118) 3 276 := ⟨by decide +kernel, rfl⟩
theorem iX7_ask_276 : am_jp 101 276 (.if_icmp .ne 21) 21 297 279 := ⟨by decide +kernel, by decide, rfl⟩
theorem iX7_ask_279 : am_at 101 279 (.iload 5) 2 281 := ⟨by decide +kernel, rfl⟩
theorem iX7_ask_281 : am_jp 101 281 (.ifCond .le 16) 16 297 284 := ⟨by decide +kernel, by decide, rfl⟩
theorem iX7_ask_284 : am_at 101 284 (.aload_n 0) 1 285 := ⟨by decide +kernel, rfl⟩
theorem iX7_ask_285 : am_at 101 285 (.invokevirtual 246) 3 288 := ⟨by decide +kernel, rfl⟩
theorem cX7_ask_246 : am_sV 101 246 100 7 := ⟨wd_936, wd_938, wp_30, rfl, by decide⟩
theorem iX7_ask_288 : am_at 101 288 (.bipush 40) 2 290 := ⟨by decide +kernel, rfl⟩
theorem iX7_ask_290 : am_jp 101 290 (.if_icmp .ne 7) 7 297 293 := ⟨by decide +kernel, by decide, rfl⟩
theorem iX7_ask_293 : am_at 101 293 (.iconst 3) 1 294 := ⟨by decide +kernel, rfl⟩
theorem iX7_ask_294 : am_jp 101 294 (.goto 4) 4 298 297 := ⟨by decide +kernel, by decide, rfl⟩
theorem iX7_ask_297 : am_at 101 297 (.iconst 0) 1 298 := ⟨by decide +kernel, rfl⟩
theorem iX7_ask_298 : am_at 101 298 (.putfield 121) 3 301 := ⟨by decide +kernel, rfl⟩
theorem iX7_ask_301 : am_at 101 301 (.aload_n 0) 1 302 := ⟨by decide +kernel, rfl⟩
theorem iX7_ask_302 : am_at 101 302 (.getfield 121) 3 305 := ⟨by decide +kernel, rfl⟩
theorem iX7_ask_305 : am_jp 101 305 (.ifCond .le 5) 5 310 308 := ⟨by decide +kernel, by decide, rfl⟩
theorem iX7_ask_308 : am_at 101 308 (.iconst 0) 1 309 := ⟨by decide +kernel, rfl⟩
theorem iX7_ask_309 : am_at 101 309 (.ireturn) 1 310 := ⟨by decide +kernel, rfl⟩
theorem iX7_ask_310 : am_at 101 310 (.aload_n 0) 1 311 := ⟨by decide +kernel, rfl⟩
theorem iX7_ask_311 : am_at 101 311 (.dup) 1 312 := ⟨by decide +kernel, rfl⟩
theorem iX7_ask_312 : am_at 101 312 (.getfield 204) 3 315 := ⟨by decide +kernel, rfl⟩
theorem iX7_ask_315 : am_at 101 315 (.iconst 1) 1 316 := ⟨by decide +kernel, rfl⟩
theorem iX7_ask_316 : am_at 101 316 (.iadd) 1 317 := ⟨by decide +kernel, rfl⟩
theorem iX7_ask_317 : am_at 101 317 (.putfield 204) 3 320 := ⟨by decide +kernel, rfl⟩
theorem iX7_ask_320 : am_at 101 320 (.aload_n 0) 1 321 := ⟨by decide +kernel, rfl⟩
theorem iX7_ask_321 : am_at 101 321 (.getfield 78) 3 324 := ⟨by decide +kernel, rfl⟩
theorem fX7_ask_78 : am_fld 101 78 7 27 2 := ⟨by decide, rfl, wd_693⟩
theorem iX7_ask_324 : am_at 101 324 (.iload 9) 2 326 := ⟨by decide +kernel, rfl⟩
theorem iX7_ask_326 : am_at 101 326 (.iconst 0) 1 327 := ⟨by decide +kernel, rfl⟩
theorem iX7_ask_327 : am_at 101 327 (.iastore) 1 328 := ⟨by decide +kernel, rfl⟩
theorem iX7_ask_328 : am_at 101 328 (.iload 10) 2 330 := ⟨by decide +kernel, rfl⟩
theorem iX7_ask_330 : am_at 101 330 (.aload_n 0) 1 331 := ⟨by decide +kernel, rfl⟩
theorem iX7_ask_331 : am_at 101 331 (.getfield 118) 3 334 := ⟨by decide +kernel, rfl⟩
theorem iX7_ask_334 : am_jp 101 334 (.if_icmp .ge 26) 26 360 337 := ⟨by decide +kernel, by decide, rfl⟩
theorem iX7_ask_337 : am_at 101 337 (.aload_n 0) 1 338 := ⟨by decide +kernel, rfl⟩
theorem iX7_ask_338 : am_at 101 338 (.aload_n 0) 1 339 := ⟨by decide +kernel, rfl⟩
theorem iX7_ask_339 : am_at 101 339 (.getfield 69) 3 342 := ⟨by decide +kernel, rfl⟩
theorem iX7_ask_342 : am_at 101 342 (.iload_n 1) 1 343 := ⟨by decide +kernel, rfl⟩
theorem iX7_ask_343 : am_at 101 343 (.iaload) 1 344 := ⟨by decide +kernel, rfl⟩
theorem iX7_ask_344 : am_at 101 344 (.iload 10) 2 346 := ⟨by decide +kernel, rfl⟩
theorem iX7_ask_346 : am_at 101 346 (.iadd) 1 347 := ⟨by decide +kernel, rfl⟩
theorem iX7_ask_347 : am_at 101 347 (.aload_n 0) 1 348 := ⟨by decide +kernel, rfl⟩
theorem iX7_ask_348 : am_at 101 348 (.getfield 118) 3 351 := ⟨by decide +kernel, rfl⟩
theorem iX7_ask_351 : am_at 101 351 (.irem) 1 352 := ⟨by decide +kernel, rfl⟩
theorem iX7_ask_352 : am_at 101 352 (.iload 9) 2 354 := ⟨by decide +kernel, rfl⟩
theorem iX7_ask_354 : am_at 101 354 (.invokevirtual 235) 3 357 := ⟨by decide +kernel, rfl⟩
theorem cX7_ask_235 : am_sV 101 235 98 7 := ⟨wd_813, wd_815, wp_17, rfl, by decide⟩
theorem iX7_ask_357 : am_jp 101 357 (.goto 14) 14 371 360 := ⟨by decide +kernel, by decide, rfl⟩
theorem iX7_ask_360 : am_at 101 360 (.iload 5) 2 362 := ⟨by decide +kernel, rfl⟩
theorem iX7_ask_362 : am_jp 101 362 (.ifCond .ne 9) 9 371 365 := ⟨by decide +kernel, by decide, rfl⟩
theorem iX7_ask_365 : am_at 101 365 (.aload_n 0) 1 366 := ⟨by decide +kernel, rfl⟩
theorem iX7_ask_366 : am_at 101 366 (.iload 9) 2 368 := ⟨by decide +kernel, rfl⟩
theorem iX7_ask_368 : am_at 101 368 (.invokevirtual 207) 3 371 := ⟨by decide +kernel, rfl⟩
theorem cX7_ask_207 : am_sV 101 207 86 7 := ⟨wd_888, wd_890, wp_25, rfl, by decide⟩
theorem iX7_ask_371 : am_at 101 371 (.iload 9) 2 373 := ⟨by decide +kernel, rfl⟩
theorem iX7_ask_373 : am_at 101 373 (.ireturn) 1 374 := ⟨by decide +kernel, rfl⟩
theorem iX7_read_0 : am_at 102 0 (.aload_n 0) 1 1 := ⟨by decide +kernel, rfl⟩
theorem iX7_read_1 : am_at 102 1 (.iload_n 1) 1 2 := ⟨by decide +kernel, rfl⟩
theorem iX7_read_2 : am_at 102 2 (.i2l) 1 3 := ⟨by decide +kernel, rfl⟩
theorem iX7_read_3 : am_at 102 3 (.lconst 0) 1 4 := ⟨by decide +kernel, rfl⟩
theorem iX7_read_4 : am_at 102 4 (.aload_n 0) 1 5 := ⟨by decide +kernel, rfl⟩
theorem iX7_read_5 : am_at 102 5 (.getfield 204) 3 8 := ⟨by decide +kernel, rfl⟩
theorem fX7_read_204 : am_fld 102 204 7 26 0 := ⟨by decide, rfl, wd_692⟩
theorem iX7_read_8 : am_at 102 8 (.iconst 1) 1 9 := ⟨by decide +kernel, rfl⟩
theorem iX7_read_9 : am_at 102 9 (.isub) 1 10 := ⟨by decide +kernel, rfl⟩
theorem iX7_read_10 : am_at 102 10 (.i2l) 1 11 := ⟨by decide +kernel, rfl⟩
theorem iX7_read_11 : am_at 102 11 (.invokestatic 148) 3 14 := ⟨by decide +kernel, rfl⟩
theorem cX7_read_148 : am_sS 102 148 69 := ⟨wd_797, wd_798, wd_6⟩
theorem iX7_read_14 : am_jp 102 14 (.ifCond .eq 19) 19 33 17 := ⟨by decide +kernel, by decide, rfl⟩
theorem iX7_read_17 : am_at 102 17 (.iload_n 2) 1 18 := ⟨by decide +kernel, rfl⟩
theorem iX7_read_18 : am_at 102 18 (.i2l) 1 19 := ⟨by decide +kernel, rfl⟩
theorem iX7_read_19 : am_at 102 19 (.lconst 0) 1 20 := ⟨by decide +kernel, rfl⟩
theorem iX7_read_20 : am_at 102 20 (.ldc2_w 249) 3 23 := ⟨by decide +kernel, rfl⟩
theorem iX7_read_23 : am_at 102 23 (.invokestatic 148) 3 26 := ⟨by decide +kernel, rfl⟩
theorem iX7_read_26 : am_jp 102 26 (.ifCond .eq 7) 7 33 29 := ⟨by decide +kernel, by decide, rfl⟩
theorem iX7_read_29 : am_at 102 29 (.iconst 0) 1 30 := ⟨by decide +kernel, rfl⟩
theorem iX7_read_30 : am_jp 102 30 (.goto 4) 4 34 33 := ⟨by decide +kernel, by decide, rfl⟩
theorem iX7_read_33 : am_at 102 33 (.iconst 1) 1 34 := ⟨by decide +kernel, rfl⟩
theorem iX7_read_34 : am_at 102 34 (.putfield 121) 3 37 := ⟨by decide +kernel, rfl⟩
theorem fX7_read_121 : am_fld 102 121 7 2 0 := ⟨by decide, rfl, wd_668⟩
theorem iX7_read_37 : am_at 102 37 (.aload_n 0) 1 38 := ⟨by decide +kernel, rfl⟩
theorem iX7_read_38 : am_at 102 38 (.getfield 121) 3 41 := ⟨by decide +kernel, rfl⟩
theorem iX7_read_41 : am_jp 102 41 (.ifCond .le 5) 5 46 44 := ⟨by decide +kernel, by decide, rfl⟩
theorem iX7_read_44 : am_at 102 44 (.lconst 0) 1 45 := ⟨by decide +kernel, rfl⟩
theorem iX7_read_45 : am_at 102 45 (.lreturn) 1 46 := ⟨by decide +kernel, rfl⟩
theorem iX7_read_46 : am_at 102 46 (.iload_n 2) 1 47 := ⟨by decide +kernel, rfl⟩
theorem iX7_read_47 : decode (am_b 102) 47 = .ok (.tableswitch 71 0 4 #[33, 41, 49, 56, 63], 33) := by decide +kernel
theorem iX7_read_80 : am_at 102 80 (.aload_n 0) 1 81 := ⟨by decide +kernel, rfl⟩
theorem iX7_read_81 : am_at 102 81 (.getfield 78) 3 84 := ⟨by decide +kernel, rfl⟩
theorem fX7_read_78 : am_fld 102 78 7 27 2 := ⟨by decide, rfl, wd_693⟩
theorem iX7_read_84 : am_at 102 84 (.iload_n 1) 1 85 := ⟨by decide +kernel, rfl⟩
theorem iX7_read_85 : am_at 102 85 (.iaload) 1 86 := ⟨by decide +kernel, rfl⟩
theorem iX7_read_86 : am_at 102 86 (.i2l) 1 87 := ⟨by decide +kernel, rfl⟩
theorem iX7_read_87 : am_at 102 87 (.lreturn) 1 88 := ⟨by decide +kernel, rfl⟩
theorem iX7_read_88 : am_at 102 88 (.aload_n 0) 1 89 := ⟨by decide +kernel, rfl⟩
theorem iX7_read_89 : am_at 102 89 (.getfield 102) 3 92 := ⟨by decide +kernel, rfl⟩
theorem fX7_read_102 : am_fld 102 102 7 35 2 := ⟨by decide, rfl, wd_701⟩
theorem iX7_read_92 : am_at 102 92 (.iload_n 1) 1 93 := ⟨by decide +kernel, rfl⟩
theorem iX7_read_93 : am_at 102 93 (.iaload) 1 94 := ⟨by decide +kernel, rfl⟩
theorem iX7_read_94 : am_at 102 94 (.i2l) 1 95 := ⟨by decide +kernel, rfl⟩
theorem iX7_read_95 : am_at 102 95 (.lreturn) 1 96 := ⟨by decide +kernel, rfl⟩
theorem iX7_read_96 : am_at 102 96 (.aload_n 0) 1 97 := ⟨by decide +kernel, rfl⟩
theorem iX7_read_97 : am_at 102 97 (.getfield 105) 3 100 := ⟨by decide +kernel, rfl⟩
theorem fX7_read_105 : am_fld 102 105 7 36 2 := ⟨by decide, rfl, wd_702⟩
theorem iX7_read_100 : am_at 102 100 (.iload_n 1) 1 101 := ⟨by decide +kernel, rfl⟩
theorem iX7_read_101 : am_at 102 101 (.laload) 1 102 := ⟨by decide +kernel, rfl⟩
theorem iX7_read_102 : am_at 102 102 (.lreturn) 1 103 := ⟨by decide +kernel, rfl⟩
theorem iX7_read_103 : am_at 102 103 (.aload_n 0) 1 104 := ⟨by decide +kernel, rfl⟩
theorem iX7_read_104 : am_at 102 104 (.getfield 108) 3 107 := ⟨by decide +kernel, rfl⟩
theorem fX7_read_108 : am_fld 102 108 7 37 2 := ⟨by decide, rfl, wd_703⟩
theorem iX7_read_107 : am_at 102 107 (.iload_n 1) 1 108 := ⟨by decide +kernel, rfl⟩
theorem iX7_read_108 : am_at 102 108 (.laload) 1 109 := ⟨by decide +kernel, rfl⟩
theorem iX7_read_109 : am_at 102 109 (.lreturn) 1 110 := ⟨by decide +kernel, rfl⟩
theorem iX7_read_110 : am_at 102 110 (.aload_n 0) 1 111 := ⟨by decide +kernel, rfl⟩
theorem iX7_read_111 : am_at 102 111 (.getfield 111) 3 114 := ⟨by decide +kernel, rfl⟩
theorem fX7_read_111 : am_fld 102 111 7 38 2 := ⟨by decide, rfl, wd_704⟩
theorem iX7_read_114 : am_at 102 114 (.iload_n 1) 1 115 := ⟨by decide +kernel, rfl⟩
theorem iX7_read_115 : am_at 102 115 (.iaload) 1 116 := ⟨by decide +kernel, rfl⟩
theorem iX7_read_116 : am_at 102 116 (.i2l) 1 117 := ⟨by decide +kernel, rfl⟩
theorem iX7_read_117 : am_at 102 117 (.lreturn) 1 118 := ⟨by decide +kernel, rfl⟩
theorem iX7_read_118 : am_at 102 118 (.aload_n 0) 1 119 := ⟨by decide +kernel, rfl⟩
theorem iX7_read_119 : am_at 102 119 (.getfield 81) 3 122 := ⟨by decide +kernel, rfl⟩
theorem fX7_read_81 : am_fld 102 81 7 28 2 := ⟨by decide, rfl, wd_694⟩
theorem iX7_read_122 : am_at 102 122 (.iload_n 1) 1 123 := ⟨by decide +kernel, rfl⟩
theorem iX7_read_123 : am_at 102 123 (.iaload) 1 124 := ⟨by decide +kernel, rfl⟩
theorem iX7_read_124 : am_at 102 124 (.i2l) 1 125 := ⟨by decide +kernel, rfl⟩
theorem iX7_read_125 : am_at 102 125 (.lreturn) 1 126 := ⟨by decide +kernel, rfl⟩
theorem iX7_value_0 : am_at 103 0 (.aload_n 0) 1 1 := ⟨by decide +kernel, rfl⟩
theorem iX7_value_1 : am_at 103 1 (.aload_n 0) 1 2 := ⟨by decide +kernel, rfl⟩
theorem iX7_value_2 : am_at 103 2 (.iload_n 1) 1 3 := ⟨by decide +kernel, rfl⟩
theorem iX7_value_3 : am_at 103 3 (.invokevirtual 162) 3 6 := ⟨by decide +kernel, rfl⟩
theorem cX7_value_162 : am_sV 103 162 75 7 := ⟨wd_842, wd_844, wp_20, rfl, by decide⟩
theorem iX7_value_6 : am_jp 103 6 (.ifCond .eq 16) 16 22 9 := ⟨by decide +kernel, by decide, rfl⟩
theorem iX7_value_9 : am_at 103 9 (.aload_n 0) 1 10 := ⟨by decide +kernel, rfl⟩
theorem iX7_value_10 : am_at 103 10 (.iload_n 2) 1 11 := ⟨by decide +kernel, rfl⟩
theorem iX7_value_11 : am_at 103 11 (.iload_n 3) 1 12 := ⟨by decide +kernel, rfl⟩
theorem iX7_value_12 : am_at 103 12 (.invokevirtual 243) 3 15 := ⟨by decide +kernel, rfl⟩
theorem cX7_value_243 : am_sV 103 243 94 7 := ⟨wd_932, wd_934, wp_29, rfl, by decide⟩
theorem iX7_value_15 : am_jp 103 15 (.ifCond .eq 7) 7 22 18 := ⟨by decide +kernel, by decide, rfl⟩
theorem iX7_value_18 : am_at 103 18 (.iconst 0) 1 19 := ⟨by decide +kernel, rfl⟩
theorem iX7_value_19 : am_jp 103 19 (.goto 4) 4 23 22 := ⟨by decide +kernel, by decide, rfl⟩
theorem iX7_value_22 : am_at 103 22 (.iconst 1) 1 23 := ⟨by decide +kernel, rfl⟩
theorem iX7_value_23 : am_at 103 23 (.putfield 121) 3 26 := ⟨by decide +kernel, rfl⟩
theorem fX7_value_121 : am_fld 103 121 7 2 0 := ⟨by decide, rfl, wd_668⟩
theorem iX7_value_26 : am_at 103 26 (.aload_n 0) 1 27 := ⟨by decide +kernel, rfl⟩
theorem iX7_value_27 : am_at 103 27 (.getfield 121) 3 30 := ⟨by decide +kernel, rfl⟩
theorem iX7_value_30 : am_jp 103 30 (.ifCond .le 7) 7 37 33 := ⟨by decide +kernel, by decide, rfl⟩
theorem iX7_value_33 : am_at 103 33 (.lconst 0) 1 34 := ⟨by decide +kernel, rfl⟩
theorem iX7_value_34 : am_jp 103 34 (.goto 10) 10 44 37 := ⟨by decide +kernel, by decide, rfl⟩
theorem iX7_value_37 : am_at 103 37 (.aload_n 0) 1 38 := ⟨by decide +kernel, rfl⟩
theorem iX7_value_38 : am_at 103 38 (.iload_n 1) 1 39 := ⟨by decide +kernel, rfl⟩
theorem iX7_value_39 : am_at 103 39 (.iload_n 2) 1 40 := ⟨by decide +kernel, rfl⟩
theorem iX7_value_40 : am_at 103 40 (.iload_n 3) 1 41 := ⟨by decide +kernel, rfl⟩
theorem iX7_value_41 : am_at 103 41 (.invokevirtual 228) 3 44 := ⟨by decide +kernel, rfl⟩
theorem cX7_value_228 : am_sV 103 228 95 7 := ⟨wd_817, wd_819, wp_18, rfl, by decide⟩
theorem iX7_value_44 : am_at 103 44 (.lreturn) 1 45 := ⟨by decide +kernel, rfl⟩
theorem iX7_at_0 : am_at 104 0 (.aload_n 0) 1 1 := ⟨by decide +kernel, rfl⟩
theorem iX7_at_1 : am_at 104 1 (.aload_n 0) 1 2 := ⟨by decide +kernel, rfl⟩
theorem iX7_at_2 : am_at 104 2 (.iload_n 1) 1 3 := ⟨by decide +kernel, rfl⟩
theorem iX7_at_3 : am_at 104 3 (.invokevirtual 162) 3 6 := ⟨by decide +kernel, rfl⟩
theorem cX7_at_162 : am_sV 104 162 75 7 := ⟨wd_842, wd_844, wp_20, rfl, by decide⟩
theorem iX7_at_6 : am_jp 104 6 (.ifCond .eq 15) 15 21 9 := ⟨by decide +kernel, by decide, rfl⟩
theorem iX7_at_9 : am_at 104 9 (.aload_n 0) 1 10 := ⟨by decide +kernel, rfl⟩
theorem iX7_at_10 : am_at 104 10 (.iload_n 2) 1 11 := ⟨by decide +kernel, rfl⟩
theorem iX7_at_11 : am_at 104 11 (.invokevirtual 193) 3 14 := ⟨by decide +kernel, rfl⟩
theorem cX7_at_193 : am_sV 104 193 76 7 := ⟨wd_858, wd_860, wp_21, rfl, by decide⟩
theorem iX7_at_14 : am_jp 104 14 (.ifCond .eq 7) 7 21 17 := ⟨by decide +kernel, by decide, rfl⟩
theorem iX7_at_17 : am_at 104 17 (.iconst 0) 1 18 := ⟨by decide +kernel, rfl⟩
theorem iX7_at_18 : am_jp 104 18 (.goto 4) 4 22 21 := ⟨by decide +kernel, by decide, rfl⟩
theorem iX7_at_21 : am_at 104 21 (.iconst 1) 1 22 := ⟨by decide +kernel, rfl⟩
theorem iX7_at_22 : am_at 104 22 (.putfield 121) 3 25 := ⟨by decide +kernel, rfl⟩
theorem fX7_at_121 : am_fld 104 121 7 2 0 := ⟨by decide, rfl, wd_668⟩
theorem iX7_at_25 : am_at 104 25 (.aload_n 0) 1 26 := ⟨by decide +kernel, rfl⟩
theorem iX7_at_26 : am_at 104 26 (.getfield 121) 3 29 := ⟨by decide +kernel, rfl⟩
theorem iX7_at_29 : am_jp 104 29 (.ifCond .le 7) 7 36 32 := ⟨by decide +kernel, by decide, rfl⟩
theorem iX7_at_32 : am_at 104 32 (.iconst 0) 1 33 := ⟨by decide +kernel, rfl⟩
theorem iX7_at_33 : am_jp 104 33 (.goto 13) 13 46 36 := ⟨by decide +kernel, by decide, rfl⟩
theorem iX7_at_36 : am_at 104 36 (.aload_n 0) 1 37 := ⟨by decide +kernel, rfl⟩
theorem iX7_at_37 : am_at 104 37 (.getfield 53) 3 40 := ⟨by decide +kernel, rfl⟩
theorem fX7_at_53 : am_fld 104 53 7 18 2 := ⟨by decide, rfl, wd_684⟩
theorem iX7_at_40 : am_at 104 40 (.iconst 3) 1 41 := ⟨by decide +kernel, rfl⟩
theorem iX7_at_41 : am_at 104 41 (.iload_n 1) 1 42 := ⟨by decide +kernel, rfl⟩
theorem iX7_at_42 : am_at 104 42 (.imul) 1 43 := ⟨by decide +kernel, rfl⟩
theorem iX7_at_43 : am_at 104 43 (.iload_n 2) 1 44 := ⟨by decide +kernel, rfl⟩
theorem iX7_at_44 : am_at 104 44 (.iadd) 1 45 := ⟨by decide +kernel, rfl⟩
theorem iX7_at_45 : am_at 104 45 (.iaload) 1 46 := ⟨by decide +kernel, rfl⟩
theorem iX7_at_46 : am_at 104 46 (.ireturn) 1 47 := ⟨by decide +kernel, rfl⟩
theorem iX7_kept_0 : am_at 105 0 (.aload_n 0) 1 1 := ⟨by decide +kernel, rfl⟩
theorem iX7_kept_1 : am_at 105 1 (.aload_n 0) 1 2 := ⟨by decide +kernel, rfl⟩
theorem iX7_kept_2 : am_at 105 2 (.iload_n 1) 1 3 := ⟨by decide +kernel, rfl⟩
theorem iX7_kept_3 : am_at 105 3 (.invokevirtual 162) 3 6 := ⟨by decide +kernel, rfl⟩
theorem cX7_kept_162 : am_sV 105 162 75 7 := ⟨wd_842, wd_844, wp_20, rfl, by decide⟩
theorem iX7_kept_6 : am_jp 105 6 (.ifCond .eq 15) 15 21 9 := ⟨by decide +kernel, by decide, rfl⟩
theorem iX7_kept_9 : am_at 105 9 (.aload_n 0) 1 10 := ⟨by decide +kernel, rfl⟩
theorem iX7_kept_10 : am_at 105 10 (.iload_n 2) 1 11 := ⟨by decide +kernel, rfl⟩
theorem iX7_kept_11 : am_at 105 11 (.invokevirtual 193) 3 14 := ⟨by decide +kernel, rfl⟩
theorem cX7_kept_193 : am_sV 105 193 76 7 := ⟨wd_858, wd_860, wp_21, rfl, by decide⟩
theorem iX7_kept_14 : am_jp 105 14 (.ifCond .eq 7) 7 21 17 := ⟨by decide +kernel, by decide, rfl⟩
theorem iX7_kept_17 : am_at 105 17 (.iconst 0) 1 18 := ⟨by decide +kernel, rfl⟩
theorem iX7_kept_18 : am_jp 105 18 (.goto 4) 4 22 21 := ⟨by decide +kernel, by decide, rfl⟩
theorem iX7_kept_21 : am_at 105 21 (.iconst 1) 1 22 := ⟨by decide +kernel, rfl⟩
theorem iX7_kept_22 : am_at 105 22 (.putfield 121) 3 25 := ⟨by decide +kernel, rfl⟩
theorem fX7_kept_121 : am_fld 105 121 7 2 0 := ⟨by decide, rfl, wd_668⟩
theorem iX7_kept_25 : am_at 105 25 (.aload_n 0) 1 26 := ⟨by decide +kernel, rfl⟩
theorem iX7_kept_26 : am_at 105 26 (.getfield 121) 3 29 := ⟨by decide +kernel, rfl⟩
theorem iX7_kept_29 : am_jp 105 29 (.ifCond .le 7) 7 36 32 := ⟨by decide +kernel, by decide, rfl⟩
theorem iX7_kept_32 : am_at 105 32 (.iconst 0) 1 33 := ⟨by decide +kernel, rfl⟩
theorem iX7_kept_33 : am_jp 105 33 (.goto 15) 15 48 36 := ⟨by decide +kernel, by decide, rfl⟩
theorem iX7_kept_36 : am_at 105 36 (.aload_n 0) 1 37 := ⟨by decide +kernel, rfl⟩
theorem iX7_kept_37 : am_at 105 37 (.getfield 53) 3 40 := ⟨by decide +kernel, rfl⟩
theorem fX7_kept_53 : am_fld 105 53 7 18 2 := ⟨by decide, rfl, wd_684⟩
theorem iX7_kept_40 : am_at 105 40 (.iconst 3) 1 41 := ⟨by decide +kernel, rfl⟩
theorem iX7_kept_41 : am_at 105 41 (.iconst 4) 1 42 := ⟨by decide +kernel, rfl⟩
theorem iX7_kept_42 : am_at 105 42 (.iload_n 1) 1 43 := ⟨by decide +kernel, rfl⟩
theorem iX7_kept_43 : am_at 105 43 (.iadd) 1 44 := ⟨by decide +kernel, rfl⟩
theorem iX7_kept_44 : am_at 105 44 (.imul) 1 45 := ⟨by decide +kernel, rfl⟩
theorem iX7_kept_45 : am_at 105 45 (.iload_n 2) 1 46 := ⟨by decide +kernel, rfl⟩
theorem iX7_kept_46 : am_at 105 46 (.iadd) 1 47 := ⟨by decide +kernel, rfl⟩
theorem iX7_kept_47 : am_at 105 47 (.iaload) 1 48 := ⟨by decide +kernel, rfl⟩
theorem iX7_kept_48 : am_at 105 48 (.ireturn) 1 49 := ⟨by decide +kernel, rfl⟩
theorem iX7_log_0 : am_at 106 0 (.aload_n 0) 1 1 := ⟨by decide +kernel, rfl⟩
theorem iX7_log_1 : am_at 106 1 (.aload_n 0) 1 2 := ⟨by decide +kernel, rfl⟩
theorem iX7_log_2 : am_at 106 2 (.iload_n 1) 1 3 := ⟨by decide +kernel, rfl⟩
theorem iX7_log_3 : am_at 106 3 (.invokevirtual 193) 3 6 := ⟨by decide +kernel, rfl⟩
theorem cX7_log_193 : am_sV 106 193 76 7 := ⟨wd_858, wd_860, wp_21, rfl, by decide⟩
theorem iX7_log_6 : am_jp 106 6 (.ifCond .eq 17) 17 23 9 := ⟨by decide +kernel, by decide, rfl⟩
theorem iX7_log_9 : am_at 106 9 (.iload_n 2) 1 10 := ⟨by decide +kernel, rfl⟩
theorem iX7_log_10 : am_at 106 10 (.i2l) 1 11 := ⟨by decide +kernel, rfl⟩
theorem iX7_log_11 : am_at 106 11 (.lconst 0) 1 12 := ⟨by decide +kernel, rfl⟩
theorem iX7_log_12 : am_at 106 12 (.lconst 1) 1 13 := ⟨by decide +kernel, rfl⟩
theorem iX7_log_13 : am_at 106 13 (.invokestatic 148) 3 16 := ⟨by decide +kernel, rfl⟩
theorem cX7_log_148 : am_sS 106 148 69 := ⟨wd_797, wd_798, wd_6⟩
theorem iX7_log_16 : am_jp 106 16 (.ifCond .eq 7) 7 23 19 := ⟨by decide +kernel, by decide, rfl⟩
theorem iX7_log_19 : am_at 106 19 (.iconst 0) 1 20 := ⟨by decide +kernel, rfl⟩
theorem iX7_log_20 : am_jp 106 20 (.goto 4) 4 24 23 := ⟨by decide +kernel, by decide, rfl⟩
theorem iX7_log_23 : am_at 106 23 (.iconst 1) 1 24 := ⟨by decide +kernel, rfl⟩
theorem iX7_log_24 : am_at 106 24 (.putfield 121) 3 27 := ⟨by decide +kernel, rfl⟩
theorem fX7_log_121 : am_fld 106 121 7 2 0 := ⟨by decide, rfl, wd_668⟩
theorem iX7_log_27 : am_at 106 27 (.aload_n 0) 1 28 := ⟨by decide +kernel, rfl⟩
theorem iX7_log_28 : am_at 106 28 (.getfield 121) 3 31 := ⟨by decide +kernel, rfl⟩
theorem iX7_log_31 : am_jp 106 31 (.ifCond .le 7) 7 38 34 := ⟨by decide +kernel, by decide, rfl⟩
theorem iX7_log_34 : am_at 106 34 (.iconst 0) 1 35 := ⟨by decide +kernel, rfl⟩
theorem iX7_log_35 : am_jp 106 35 (.goto 22) 22 57 38 := ⟨by decide +kernel, by decide, rfl⟩
theorem iX7_log_38 : am_at 106 38 (.iload_n 2) 1 39 := ⟨by decide +kernel, rfl⟩
theorem iX7_log_39 : am_jp 106 39 (.ifCond .ne 12) 12 51 42 := ⟨by decide +kernel, by decide, rfl⟩
theorem iX7_log_42 : am_at 106 42 (.aload_n 0) 1 43 := ⟨by decide +kernel, rfl⟩
theorem iX7_log_43 : am_at 106 43 (.getfield 7) 3 46 := ⟨by decide +kernel, rfl⟩
theorem fX7_log_7 : am_fld 106 7 7 4 2 := ⟨by decide, rfl, wd_670⟩
theorem iX7_log_46 : am_at 106 46 (.iload_n 1) 1 47 := ⟨by decide +kernel, rfl⟩
theorem iX7_log_47 : am_at 106 47 (.iaload) 1 48 := ⟨by decide +kernel, rfl⟩
theorem iX7_log_48 : am_jp 106 48 (.goto 9) 9 57 51 := ⟨by decide +kernel, by decide, rfl⟩
theorem iX7_log_51 : am_at 106 51 (.aload_n 0) 1 52 := ⟨by decide +kernel, rfl⟩
theorem iX7_log_52 : am_at 106 52 (.getfield 13) 3 55 := ⟨by decide +kernel, rfl⟩
theorem fX7_log_13 : am_fld 106 13 7 5 2 := ⟨by decide, rfl, wd_671⟩
theorem iX7_log_55 : am_at 106 55 (.iload_n 1) 1 56 := ⟨by decide +kernel, rfl⟩
theorem iX7_log_56 : am_at 106 56 (.iaload) 1 57 := ⟨by decide +kernel, rfl⟩
theorem iX7_log_57 : am_at 106 57 (.ireturn) 1 58 := ⟨by decide +kernel, rfl⟩
theorem iX7_logged_0 : am_at 107 0 (.aload_n 0) 1 1 := ⟨by decide +kernel, rfl⟩
theorem iX7_logged_1 : am_at 107 1 (.aload_n 0) 1 2 := ⟨by decide +kernel, rfl⟩
theorem iX7_logged_2 : am_at 107 2 (.iload_n 1) 1 3 := ⟨by decide +kernel, rfl⟩
theorem iX7_logged_3 : am_at 107 3 (.invokevirtual 193) 3 6 := ⟨by decide +kernel, rfl⟩
theorem cX7_logged_193 : am_sV 107 193 76 7 := ⟨wd_858, wd_860, wp_21, rfl, by decide⟩
theorem iX7_logged_6 : am_jp 107 6 (.ifCond .eq 39) 39 45 9 := ⟨by decide +kernel, by decide, rfl⟩
theorem iX7_logged_9 : am_at 107 9 (.iload_n 3) 1 10 := ⟨by decide +kernel, rfl⟩
theorem iX7_logged_10 : am_at 107 10 (.i2l) 1 11 := ⟨by decide +kernel, rfl⟩
theorem iX7_logged_11 : am_at 107 11 (.lconst 0) 1 12 := ⟨by decide +kernel, rfl⟩
theorem iX7_logged_12 : am_at 107 12 (.ldc2_w 251) 3 15 := ⟨by decide +kernel, rfl⟩
theorem iX7_logged_15 : am_at 107 15 (.invokestatic 148) 3 18 := ⟨by decide +kernel, rfl⟩
theorem cX7_logged_148 : am_sS 107 148 69 := ⟨wd_797, wd_798, wd_6⟩
theorem iX7_logged_18 : am_jp 107 18 (.ifCond .eq 27) 27 45 21 := ⟨by decide +kernel, by decide, rfl⟩
theorem iX7_logged_21 : am_at 107 21 (.iload_n 2) 1 22 := ⟨by decide +kernel, rfl⟩
theorem iX7_logged_22 : am_at 107 22 (.aload_n 0) 1 23 := ⟨by decide +kernel, rfl⟩
theorem iX7_logged_23 : am_at 107 23 (.getfield 13) 3 26 := ⟨by decide +kernel, rfl⟩
theorem fX7_logged_13 : am_fld 107 13 7 5 2 := ⟨by decide, rfl, wd_671⟩
theorem iX7_logged_26 : am_at 107 26 (.iload_n 1) 1 27 := ⟨by decide +kernel, rfl⟩
theorem iX7_logged_27 : am_at 107 27 (.iaload) 1 28 := ⟨by decide +kernel, rfl⟩
theorem iX7_logged_28 : am_jp 107 28 (.if_icmp .le 17) 17 45 31 := ⟨by decide +kernel, by decide, rfl⟩
theorem iX7_logged_31 : am_at 107 31 (.iload_n 2) 1 32 := ⟨by decide +kernel, rfl⟩
theorem iX7_logged_32 : am_at 107 32 (.aload_n 0) 1 33 := ⟨by decide +kernel, rfl⟩
theorem iX7_logged_33 : am_at 107 33 (.getfield 7) 3 36 := ⟨by decide +kernel, rfl⟩
theorem fX7_logged_7 : am_fld 107 7 7 4 2 := ⟨by decide, rfl, wd_670⟩
theorem iX7_logged_36 : am_at 107 36 (.iload_n 1) 1 37 := ⟨by decide +kernel, rfl⟩
theorem iX7_logged_37 : am_at 107 37 (.iaload) 1 38 := ⟨by decide +kernel, rfl⟩
theorem iX7_logged_38 : am_jp 107 38 (.if_icmp .gt 7) 7 45 41 := ⟨by decide +kernel, by decide, rfl⟩
theorem iX7_logged_41 : am_at 107 41 (.iconst 0) 1 42 := ⟨by decide +kernel, rfl⟩
theorem iX7_logged_42 : am_jp 107 42 (.goto 4) 4 46 45 := ⟨by decide +kernel, by decide, rfl⟩
theorem iX7_logged_45 : am_at 107 45 (.iconst 1) 1 46 := ⟨by decide +kernel, rfl⟩
theorem iX7_logged_46 : am_at 107 46 (.putfield 121) 3 49 := ⟨by decide +kernel, rfl⟩
theorem fX7_logged_121 : am_fld 107 121 7 2 0 := ⟨by decide, rfl, wd_668⟩
theorem iX7_logged_49 : am_at 107 49 (.aload_n 0) 1 50 := ⟨by decide +kernel, rfl⟩
theorem iX7_logged_50 : am_at 107 50 (.getfield 121) 3 53 := ⟨by decide +kernel, rfl⟩
theorem iX7_logged_53 : am_jp 107 53 (.ifCond .le 5) 5 58 56 := ⟨by decide +kernel, by decide, rfl⟩
theorem iX7_logged_56 : am_at 107 56 (.iconst 0) 1 57 := ⟨by decide +kernel, rfl⟩
theorem iX7_logged_57 : am_at 107 57 (.ireturn) 1 58 := ⟨by decide +kernel, rfl⟩
theorem iX7_logged_58 : am_at 107 58 (.sipush 401) 3 61 := ⟨by decide +kernel, rfl⟩
theorem iX7_logged_61 : am_at 107 61 (.iload_n 1) 1 62 := ⟨by decide +kernel, rfl⟩
theorem iX7_logged_62 : am_at 107 62 (.imul) 1 63 := ⟨by decide +kernel, rfl⟩
theorem iX7_logged_63 : am_at 107 63 (.iload_n 2) 1 64 := ⟨by decide +kernel, rfl⟩
theorem iX7_logged_64 : am_at 107 64 (.iadd) 1 65 := ⟨by decide +kernel, rfl⟩
theorem iX7_logged_65 : am_at 107 65 (.istore 4) 2 67 := ⟨by decide +kernel, rfl⟩
theorem iX7_logged_67 : am_at 107 67 (.iload_n 3) 1 68 := ⟨by decide +kernel, rfl⟩
theorem iX7_logged_68 : decode (am_b 107) 68 = .ok (.tableswitch 64 0 3 #[32, 40, 48, 56], 32) := by decide +kernel
theorem iX7_logged_100 : am_at 107 100 (.aload_n 0) 1 101 := ⟨by decide +kernel, rfl⟩
theorem iX7_logged_101 : am_at 107 101 (.getfield 16) 3 104 := ⟨by decide +kernel, rfl⟩
theorem fX7_logged_16 : am_fld 107 16 7 6 2 := ⟨by decide, rfl, wd_672⟩
theorem iX7_logged_104 : am_at 107 104 (.iload 4) 2 106 := ⟨by decide +kernel, rfl⟩
theorem iX7_logged_106 : am_at 107 106 (.iaload) 1 107 := ⟨by decide +kernel, rfl⟩
theorem iX7_logged_107 : am_at 107 107 (.ireturn) 1 108 := ⟨by decide +kernel, rfl⟩
theorem iX7_logged_108 : am_at 107 108 (.aload_n 0) 1 109 := ⟨by decide +kernel, rfl⟩
theorem iX7_logged_109 : am_at 107 109 (.getfield 19) 3 112 := ⟨by decide +kernel, rfl⟩
theorem fX7_logged_19 : am_fld 107 19 7 7 2 := ⟨by decide, rfl, wd_673⟩
theorem iX7_logged_112 : am_at 107 112 (.iload 4) 2 114 := ⟨by decide +kernel, rfl⟩
theorem iX7_logged_114 : am_at 107 114 (.iaload) 1 115 := ⟨by decide +kernel, rfl⟩
theorem iX7_logged_115 : am_at 107 115 (.ireturn) 1 116 := ⟨by decide +kernel, rfl⟩
theorem iX7_logged_116 : am_at 107 116 (.aload_n 0) 1 117 := ⟨by decide +kernel, rfl⟩
theorem iX7_logged_117 : am_at 107 117 (.getfield 22) 3 120 := ⟨by decide +kernel, rfl⟩
theorem fX7_logged_22 : am_fld 107 22 7 8 2 := ⟨by decide, rfl, wd_674⟩
theorem iX7_logged_120 : am_at 107 120 (.iload 4) 2 122 := ⟨by decide +kernel, rfl⟩
theorem iX7_logged_122 : am_at 107 122 (.iaload) 1 123 := ⟨by decide +kernel, rfl⟩
theorem iX7_logged_123 : am_at 107 123 (.ireturn) 1 124 := ⟨by decide +kernel, rfl⟩
theorem iX7_logged_124 : am_at 107 124 (.aload_n 0) 1 125 := ⟨by decide +kernel, rfl⟩
theorem iX7_logged_125 : am_at 107 125 (.getfield 25) 3 128 := ⟨by decide +kernel, rfl⟩
theorem fX7_logged_25 : am_fld 107 25 7 9 2 := ⟨by decide, rfl, wd_675⟩
theorem iX7_logged_128 : am_at 107 128 (.iload 4) 2 130 := ⟨by decide +kernel, rfl⟩
theorem iX7_logged_130 : am_at 107 130 (.iaload) 1 131 := ⟨by decide +kernel, rfl⟩
theorem iX7_logged_131 : am_at 107 131 (.ireturn) 1 132 := ⟨by decide +kernel, rfl⟩
theorem iX7_logged_132 : am_at 107 132 (.aload_n 0) 1 133 := ⟨by decide +kernel, rfl⟩
theorem iX7_logged_133 : am_at 107 133 (.getfield 28) 3 136 := ⟨by decide +kernel, rfl⟩
theorem fX7_logged_28 : am_fld 107 28 7 10 2 := ⟨by decide, rfl, wd_676⟩
theorem iX7_logged_136 : am_at 107 136 (.iconst 3) 1 137 := ⟨by decide +kernel, rfl⟩
theorem iX7_logged_137 : am_at 107 137 (.iload 4) 2 139 := ⟨by decide +kernel, rfl⟩
theorem iX7_logged_139 : am_at 107 139 (.imul) 1 140 := ⟨by decide +kernel, rfl⟩
theorem iX7_logged_140 : am_at 107 140 (.iload_n 3) 1 141 := ⟨by decide +kernel, rfl⟩
theorem iX7_logged_141 : am_at 107 141 (.iadd) 1 142 := ⟨by decide +kernel, rfl⟩
theorem iX7_logged_142 : am_at 107 142 (.iconst 4) 1 143 := ⟨by decide +kernel, rfl⟩
theorem iX7_logged_143 : am_at 107 143 (.isub) 1 144 := ⟨by decide +kernel, rfl⟩
theorem iX7_logged_144 : am_at 107 144 (.iaload) 1 145 := ⟨by decide +kernel, rfl⟩
theorem iX7_logged_145 : am_at 107 145 (.ireturn) 1 146 := ⟨by decide +kernel, rfl⟩
theorem iX7_session_0 : am_at 108 0 (.aload_n 0) 1 1 := ⟨by decide +kernel, rfl⟩
theorem iX7_session_1 : am_at 108 1 (.iload_n 1) 1 2 := ⟨by decide +kernel, rfl⟩
theorem iX7_session_2 : am_at 108 2 (.invokestatic 152) 3 5 := ⟨by decide +kernel, rfl⟩
theorem cX7_session_152 : am_sS 108 152 74 := ⟨wd_793, wd_794, wd_6⟩
theorem iX7_session_5 : am_jp 108 5 (.ifCond .eq 25) 25 30 8 := ⟨by decide +kernel, by decide, rfl⟩
theorem iX7_session_8 : am_at 108 8 (.iload_n 2) 1 9 := ⟨by decide +kernel, rfl⟩
theorem iX7_session_9 : am_at 108 9 (.i2l) 1 10 := ⟨by decide +kernel, rfl⟩
theorem iX7_session_10 : am_at 108 10 (.lconst 0) 1 11 := ⟨by decide +kernel, rfl⟩
theorem iX7_session_11 : am_at 108 11 (.lconst 1) 1 12 := ⟨by decide +kernel, rfl⟩
theorem iX7_session_12 : am_at 108 12 (.invokestatic 148) 3 15 := ⟨by decide +kernel, rfl⟩
theorem cX7_session_148 : am_sS 108 148 69 := ⟨wd_797, wd_798, wd_6⟩
theorem iX7_session_15 : am_jp 108 15 (.ifCond .eq 15) 15 30 18 := ⟨by decide +kernel, by decide, rfl⟩
theorem iX7_session_18 : am_at 108 18 (.aload_n 0) 1 19 := ⟨by decide +kernel, rfl⟩
theorem iX7_session_19 : am_at 108 19 (.iload_n 3) 1 20 := ⟨by decide +kernel, rfl⟩
theorem iX7_session_20 : am_at 108 20 (.invokevirtual 193) 3 23 := ⟨by decide +kernel, rfl⟩
theorem cX7_session_193 : am_sV 108 193 76 7 := ⟨wd_858, wd_860, wp_21, rfl, by decide⟩
theorem iX7_session_23 : am_jp 108 23 (.ifCond .eq 7) 7 30 26 := ⟨by decide +kernel, by decide, rfl⟩
theorem iX7_session_26 : am_at 108 26 (.iconst 0) 1 27 := ⟨by decide +kernel, rfl⟩
theorem iX7_session_27 : am_jp 108 27 (.goto 4) 4 31 30 := ⟨by decide +kernel, by decide, rfl⟩
theorem iX7_session_30 : am_at 108 30 (.iconst 1) 1 31 := ⟨by decide +kernel, rfl⟩
theorem iX7_session_31 : am_at 108 31 (.putfield 121) 3 34 := ⟨by decide +kernel, rfl⟩
theorem fX7_session_121 : am_fld 108 121 7 2 0 := ⟨by decide, rfl, wd_668⟩
theorem iX7_session_34 : am_at 108 34 (.aload_n 0) 1 35 := ⟨by decide +kernel, rfl⟩
theorem iX7_session_35 : am_at 108 35 (.getfield 121) 3 38 := ⟨by decide +kernel, rfl⟩
theorem iX7_session_38 : am_jp 108 38 (.ifCond .le 7) 7 45 41 := ⟨by decide +kernel, by decide, rfl⟩
theorem iX7_session_41 : am_at 108 41 (.iconst 0) 1 42 := ⟨by decide +kernel, rfl⟩
theorem iX7_session_42 : am_jp 108 42 (.goto 30) 30 72 45 := ⟨by decide +kernel, by decide, rfl⟩
theorem iX7_session_45 : am_at 108 45 (.iload_n 2) 1 46 := ⟨by decide +kernel, rfl⟩
theorem iX7_session_46 : am_jp 108 46 (.ifCond .ne 16) 16 62 49 := ⟨by decide +kernel, by decide, rfl⟩
theorem iX7_session_49 : am_at 108 49 (.aload_n 0) 1 50 := ⟨by decide +kernel, rfl⟩
theorem iX7_session_50 : am_at 108 50 (.getfield 72) 3 53 := ⟨by decide +kernel, rfl⟩
theorem fX7_session_72 : am_fld 108 72 7 24 2 := ⟨by decide, rfl, wd_690⟩
theorem iX7_session_53 : am_at 108 53 (.iconst 3) 1 54 := ⟨by decide +kernel, rfl⟩
theorem iX7_session_54 : am_at 108 54 (.iload_n 1) 1 55 := ⟨by decide +kernel, rfl⟩
theorem iX7_session_55 : am_at 108 55 (.imul) 1 56 := ⟨by decide +kernel, rfl⟩
theorem iX7_session_56 : am_at 108 56 (.iload_n 3) 1 57 := ⟨by decide +kernel, rfl⟩
theorem iX7_session_57 : am_at 108 57 (.iadd) 1 58 := ⟨by decide +kernel, rfl⟩
theorem iX7_session_58 : am_at 108 58 (.iaload) 1 59 := ⟨by decide +kernel, rfl⟩
theorem iX7_session_59 : am_jp 108 59 (.goto 13) 13 72 62 := ⟨by decide +kernel, by decide, rfl⟩
theorem iX7_session_62 : am_at 108 62 (.aload_n 0) 1 63 := ⟨by decide +kernel, rfl⟩
theorem iX7_session_63 : am_at 108 63 (.getfield 75) 3 66 := ⟨by decide +kernel, rfl⟩
theorem fX7_session_75 : am_fld 108 75 7 25 2 := ⟨by decide, rfl, wd_691⟩
theorem iX7_session_66 : am_at 108 66 (.iconst 3) 1 67 := ⟨by decide +kernel, rfl⟩
theorem iX7_session_67 : am_at 108 67 (.iload_n 1) 1 68 := ⟨by decide +kernel, rfl⟩
theorem iX7_session_68 : am_at 108 68 (.imul) 1 69 := ⟨by decide +kernel, rfl⟩
theorem iX7_session_69 : am_at 108 69 (.iload_n 3) 1 70 := ⟨by decide +kernel, rfl⟩
theorem iX7_session_70 : am_at 108 70 (.iadd) 1 71 := ⟨by decide +kernel, rfl⟩
theorem iX7_session_71 : am_at 108 71 (.iaload) 1 72 := ⟨by decide +kernel, rfl⟩
theorem iX7_session_72 : am_at 108 72 (.ireturn) 1 73 := ⟨by decide +kernel, rfl⟩
theorem iX7_told_0 : am_at 109 0 (.aload_n 0) 1 1 := ⟨by decide +kernel, rfl⟩
theorem iX7_told_1 : am_at 109 1 (.aload_n 0) 1 2 := ⟨by decide +kernel, rfl⟩
theorem iX7_told_2 : am_at 109 2 (.iload_n 3) 1 3 := ⟨by decide +kernel, rfl⟩
theorem iX7_told_3 : am_at 109 3 (.invokevirtual 193) 3 6 := ⟨by decide +kernel, rfl⟩
theorem cX7_told_193 : am_sV 109 193 76 7 := ⟨wd_858, wd_860, wp_21, rfl, by decide⟩
theorem iX7_told_6 : am_jp 109 6 (.ifCond .ne 7) 7 13 9 := ⟨by decide +kernel, by decide, rfl⟩
theorem iX7_told_9 : am_at 109 9 (.iconst 1) 1 10 := ⟨by decide +kernel, rfl⟩
theorem iX7_told_10 : am_jp 109 10 (.goto 16) 16 26 13 := ⟨by decide +kernel, by decide, rfl⟩
theorem iX7_told_13 : am_at 109 13 (.aload_n 0) 1 14 := ⟨by decide +kernel, rfl⟩
theorem iX7_told_14 : am_at 109 14 (.lload_n 1) 1 15 := ⟨by decide +kernel, rfl⟩
theorem iX7_told_15 : am_at 109 15 (.invokevirtual 237) 3 18 := ⟨by decide +kernel, rfl⟩
theorem cX7_told_237 : am_sV 109 237 73 7 := ⟨wd_920, wd_922, wp_28, rfl, by decide⟩
theorem iX7_told_18 : am_jp 109 18 (.ifCond .ne 7) 7 25 21 := ⟨by decide +kernel, by decide, rfl⟩
theorem iX7_told_21 : am_at 109 21 (.iconst 2) 1 22 := ⟨by decide +kernel, rfl⟩
theorem iX7_told_22 : am_jp 109 22 (.goto 4) 4 26 25 := ⟨by decide +kernel, by decide, rfl⟩
theorem iX7_told_25 : am_at 109 25 (.iconst 0) 1 26 := ⟨by decide +kernel, rfl⟩
theorem iX7_told_26 : am_at 109 26 (.putfield 121) 3 29 := ⟨by decide +kernel, rfl⟩
theorem fX7_told_121 : am_fld 109 121 7 2 0 := ⟨by decide, rfl, wd_668⟩
theorem iX7_told_29 : am_at 109 29 (.aload_n 0) 1 30 := ⟨by decide +kernel, rfl⟩
theorem iX7_told_30 : am_at 109 30 (.getfield 121) 3 33 := ⟨by decide +kernel, rfl⟩
theorem iX7_told_33 : am_jp 109 33 (.ifCond .le 7) 7 40 36 := ⟨by decide +kernel, by decide, rfl⟩
theorem iX7_told_36 : am_at 109 36 (.iconst 0) 1 37 := ⟨by decide +kernel, rfl⟩
theorem iX7_told_37 : am_jp 109 37 (.goto 8) 8 45 40 := ⟨by decide +kernel, by decide, rfl⟩
theorem iX7_told_40 : am_at 109 40 (.lload_n 1) 1 41 := ⟨by decide +kernel, rfl⟩
theorem iX7_told_41 : am_at 109 41 (.iload_n 3) 1 42 := ⟨by decide +kernel, rfl⟩
theorem iX7_told_42 : am_at 109 42 (.invokestatic 142) 3 45 := ⟨by decide +kernel, rfl⟩
theorem cX7_told_142 : am_sS 109 142 72 := ⟨wd_926, wd_927, wd_6⟩
theorem iX7_told_45 : am_at 109 45 (.ireturn) 1 46 := ⟨by decide +kernel, rfl⟩
theorem iX7_count_0 : am_at 110 0 (.aload_n 0) 1 1 := ⟨by decide +kernel, rfl⟩
theorem iX7_count_1 : am_at 110 1 (.iload_n 1) 1 2 := ⟨by decide +kernel, rfl⟩
theorem iX7_count_2 : am_at 110 2 (.i2l) 1 3 := ⟨by decide +kernel, rfl⟩
theorem iX7_count_3 : am_at 110 3 (.lconst 0) 1 4 := ⟨by decide +kernel, rfl⟩
theorem iX7_count_4 : am_at 110 4 (.ldc2_w 169) 3 7 := ⟨by decide +kernel, rfl⟩
theorem iX7_count_7 : am_at 110 7 (.invokestatic 148) 3 10 := ⟨by decide +kernel, rfl⟩
theorem cX7_count_148 : am_sS 110 148 69 := ⟨wd_797, wd_798, wd_6⟩
theorem iX7_count_10 : am_jp 110 10 (.ifCond .eq 7) 7 17 13 := ⟨by decide +kernel, by decide, rfl⟩
theorem iX7_count_13 : am_at 110 13 (.iconst 0) 1 14 := ⟨by decide +kernel, rfl⟩
theorem iX7_count_14 : am_jp 110 14 (.goto 4) 4 18 17 := ⟨by decide +kernel, by decide, rfl⟩
theorem iX7_count_17 : am_at 110 17 (.iconst 1) 1 18 := ⟨by decide +kernel, rfl⟩
theorem iX7_count_18 : am_at 110 18 (.putfield 121) 3 21 := ⟨by decide +kernel, rfl⟩
theorem fX7_count_121 : am_fld 110 121 7 2 0 := ⟨by decide, rfl, wd_668⟩
theorem iX7_count_21 : am_at 110 21 (.aload_n 0) 1 22 := ⟨by decide +kernel, rfl⟩
theorem iX7_count_22 : am_at 110 22 (.getfield 121) 3 25 := ⟨by decide +kernel, rfl⟩
theorem iX7_count_25 : am_jp 110 25 (.ifCond .le 5) 5 30 28 := ⟨by decide +kernel, by decide, rfl⟩
theorem iX7_count_28 : am_at 110 28 (.iconst 0) 1 29 := ⟨by decide +kernel, rfl⟩
theorem iX7_count_29 : am_at 110 29 (.ireturn) 1 30 := ⟨by decide +kernel, rfl⟩
theorem iX7_count_30 : am_at 110 30 (.iload_n 1) 1 31 := ⟨by decide +kernel, rfl⟩
theorem iX7_count_31 : am_jp 110 31 (.ifCond .eq 8) 8 39 34 := ⟨by decide +kernel, by decide, rfl⟩
theorem iX7_count_34 : am_at 110 34 (.iload_n 1) 1 35 := ⟨by decide +kernel, rfl⟩
theorem iX7_count_35 : am_at 110 35 (.iconst 4) 1 36 := ⟨by decide +kernel, rfl⟩
theorem iX7_count_36 : am_jp 110 36 (.if_icmp .ne 19) 19 55 39 := ⟨by decide +kernel, by decide, rfl⟩
theorem iX7_count_39 : am_at 110 39 (.iload_n 1) 1 40 := ⟨by decide +kernel, rfl⟩
theorem iX7_count_40 : am_jp 110 40 (.ifCond .ne 10) 10 50 43 := ⟨by decide +kernel, by decide, rfl⟩
theorem iX7_count_43 : am_at 110 43 (.aload_n 0) 1 44 := ⟨by decide +kernel, rfl⟩
theorem iX7_count_44 : am_at 110 44 (.getfield 204) 3 47 := ⟨by decide +kernel, rfl⟩
theorem fX7_count_204 : am_fld 110 204 7 26 0 := ⟨by decide, rfl, wd_692⟩
theorem iX7_count_47 : am_jp 110 47 (.goto 7) 7 54 50 := ⟨by decide +kernel, by decide, rfl⟩
theorem iX7_count_50 : am_at 110 50 (.aload_n 0) 1 51 := ⟨by decide +kernel, rfl⟩
theorem iX7_count_51 : am_at 110 51 (.getfield 201) 3 54 := ⟨by decide +kernel, rfl⟩
theorem fX7_count_201 : am_fld 110 201 7 3 0 := ⟨by decide, rfl, wd_669⟩
theorem iX7_count_54 : am_at 110 54 (.ireturn) 1 55 := ⟨by decide +kernel, rfl⟩
theorem iX7_count_55 : am_at 110 55 (.iconst 0) 1 56 := ⟨by decide +kernel, rfl⟩
theorem iX7_count_56 : am_at 110 56 (.istore_n 2) 1 57 := ⟨by decide +kernel, rfl⟩
theorem iX7_count_57 : am_at 110 57 (.iconst 0) 1 58 := ⟨by decide +kernel, rfl⟩
theorem iX7_count_58 : am_at 110 58 (.istore_n 3) 1 59 := ⟨by decide +kernel, rfl⟩
theorem iX7_count_59 : am_at 110 59 (.iload_n 3) 1 60 := ⟨by decide +kernel, rfl⟩
theorem iX7_count_60 : am_at 110 60 (.aload_n 0) 1 61 := ⟨by decide +kernel, rfl⟩
theorem iX7_count_61 : am_at 110 61 (.getfield 204) 3 64 := ⟨by decide +kernel, rfl⟩
theorem iX7_count_64 : am_jp 110 64 (.if_icmp .ge 29) 29 93 67 := ⟨by decide +kernel, by decide, rfl⟩
theorem iX7_count_67 : am_at 110 67 (.iload_n 2) 1 68 := ⟨by decide +kernel, rfl⟩
theorem iX7_count_68 : am_at 110 68 (.aload_n 0) 1 69 := ⟨by decide +kernel, rfl⟩
theorem iX7_count_69 : am_at 110 69 (.getfield 78) 3 72 := ⟨by decide +kernel, rfl⟩
theorem fX7_count_78 : am_fld 110 78 7 27 2 := ⟨by decide, rfl, wd_693⟩
theorem iX7_count_72 : am_at 110 72 (.iload_n 3) 1 73 := ⟨by decide +kernel, rfl⟩
theorem iX7_count_73 : am_at 110 73 (.iaload) 1 74 := ⟨by decide +kernel, rfl⟩
theorem iX7_count_74 : am_at 110 74 (.iload_n 1) 1 75 := ⟨by decide +kernel, rfl⟩
theorem iX7_count_75 : am_at 110 75 (.iconst 1) 1 76 := ⟨by decide +kernel, rfl⟩
theorem iX7_count_76 : am_at 110 76 (.isub) 1 77 := ⟨by decide +kernel, rfl⟩
theorem iX7_count_77 : am_jp 110 77 (.if_icmp .ne 7) 7 84 80 := ⟨by decide +kernel, by decide, rfl⟩
theorem iX7_count_80 : am_at 110 80 (.iconst 1) 1 81 := ⟨by decide +kernel, rfl⟩
theorem iX7_count_81 : am_jp 110 81 (.goto 4) 4 85 84 := ⟨by decide +kernel, by decide, rfl⟩
theorem iX7_count_84 : am_at 110 84 (.iconst 0) 1 85 := ⟨by decide +kernel, rfl⟩
theorem iX7_count_85 : am_at 110 85 (.iadd) 1 86 := ⟨by decide +kernel, rfl⟩
theorem iX7_count_86 : am_at 110 86 (.istore_n 2) 1 87 := ⟨by decide +kernel, rfl⟩
theorem iX7_count_87 : am_at 110 87 (.iinc 3 1) 3 90 := ⟨by decide +kernel, rfl⟩
theorem iX7_count_90 : am_jp 110 90 (.goto (-31)) (-31) 59 93 := ⟨by decide +kernel, by decide, rfl⟩
theorem iX7_count_93 : am_at 110 93 (.iload_n 2) 1 94 := ⟨by decide +kernel, rfl⟩
theorem iX7_count_94 : am_at 110 94 (.ireturn) 1 95 := ⟨by decide +kernel, rfl⟩
theorem iL_cell_0 : am_at 111 0 (.iload_n 1) 1 1 := ⟨by decide +kernel, rfl⟩
theorem iL_cell_1 : am_at 111 1 (.aload_n 0) 1 2 := ⟨by decide +kernel, rfl⟩
theorem iL_cell_2 : am_at 111 2 (.arraylength) 1 3 := ⟨by decide +kernel, rfl⟩
theorem iL_cell_3 : am_jp 111 3 (.if_icmp .ge 9) 9 12 6 := ⟨by decide +kernel, by decide, rfl⟩
theorem iL_cell_6 : am_at 111 6 (.aload_n 0) 1 7 := ⟨by decide +kernel, rfl⟩
theorem iL_cell_7 : am_at 111 7 (.iload_n 1) 1 8 := ⟨by decide +kernel, rfl⟩
theorem iL_cell_8 : am_at 111 8 (.iaload) 1 9 := ⟨by decide +kernel, rfl⟩
theorem iL_cell_9 : am_jp 111 9 (.goto 4) 4 13 12 := ⟨by decide +kernel, by decide, rfl⟩
theorem iL_cell_12 : am_at 111 12 (.iconst 0) 1 13 := ⟨by decide +kernel, rfl⟩
theorem iL_cell_13 : am_at 111 13 (.ireturn) 1 14 := ⟨by decide +kernel, rfl⟩
theorem iL_mode_0 : am_at 112 0 (.aload_n 3) 1 1 := ⟨by decide +kernel, rfl⟩
theorem iL_mode_1 : am_at 112 1 (.iconst 0) 1 2 := ⟨by decide +kernel, rfl⟩
theorem iL_mode_2 : am_at 112 2 (.aload_n 0) 1 3 := ⟨by decide +kernel, rfl⟩
theorem iL_mode_3 : am_at 112 3 (.iload_n 1) 1 4 := ⟨by decide +kernel, rfl⟩
theorem iL_mode_4 : am_at 112 4 (.iload_n 2) 1 5 := ⟨by decide +kernel, rfl⟩
theorem iL_mode_5 : am_at 112 5 (.invokevirtual 7) 3 8 := ⟨by decide +kernel, rfl⟩
theorem cL_mode_7 : am_sV 112 7 24 6 := ⟨wd_188, wd_189, wd_190, rfl, by decide⟩
theorem iL_mode_8 : am_at 112 8 (.i2l) 1 9 := ⟨by decide +kernel, rfl⟩
theorem iL_mode_9 : am_at 112 9 (.lastore) 1 10 := ⟨by decide +kernel, rfl⟩
theorem iL_mode_10 : am_jp 112 10 (.goto 11) 11 21 13 := ⟨by decide +kernel, by decide, rfl⟩
theorem iL_mode_13 : am_at 112 13 (.astore 4) 2 15 := ⟨by decide +kernel, rfl⟩
theorem iL_mode_15 : am_at 112 15 (.iconst 1) 1 16 := ⟨by decide +kernel, rfl⟩
theorem iL_mode_16 : am_at 112 16 (.ireturn) 1 17 := ⟨by decide +kernel, rfl⟩
theorem iL_mode_17 : am_at 112 17 (.astore 4) 2 19 := ⟨by decide +kernel, rfl⟩
theorem iL_mode_19 : am_at 112 19 (.iconst 2) 1 20 := ⟨by decide +kernel, rfl⟩
theorem iL_mode_20 : am_at 112 20 (.ireturn) 1 21 := ⟨by decide +kernel, rfl⟩
theorem iL_mode_21 : am_at 112 21 (.iconst 0) 1 22 := ⟨by decide +kernel, rfl⟩
theorem iL_mode_22 : am_at 112 22 (.ireturn) 1 23 := ⟨by decide +kernel, rfl⟩
theorem iL_home_0 : am_at 113 0 (.aload_n 3) 1 1 := ⟨by decide +kernel, rfl⟩
theorem iL_home_1 : am_at 113 1 (.iconst 0) 1 2 := ⟨by decide +kernel, rfl⟩
theorem iL_home_2 : am_at 113 2 (.aload_n 0) 1 3 := ⟨by decide +kernel, rfl⟩
theorem iL_home_3 : am_at 113 3 (.iload_n 1) 1 4 := ⟨by decide +kernel, rfl⟩
theorem iL_home_4 : am_at 113 4 (.iload_n 2) 1 5 := ⟨by decide +kernel, rfl⟩
theorem iL_home_5 : am_at 113 5 (.invokevirtual 17) 3 8 := ⟨by decide +kernel, rfl⟩
theorem cL_home_17 : am_sV 113 17 25 6 := ⟨wd_339, wd_340, wd_341, rfl, by decide⟩
theorem iL_home_8 : am_at 113 8 (.i2l) 1 9 := ⟨by decide +kernel, rfl⟩
theorem iL_home_9 : am_at 113 9 (.lastore) 1 10 := ⟨by decide +kernel, rfl⟩
theorem iL_home_10 : am_jp 113 10 (.goto 7) 7 17 13 := ⟨by decide +kernel, by decide, rfl⟩
theorem iL_home_13 : am_at 113 13 (.astore 4) 2 15 := ⟨by decide +kernel, rfl⟩
theorem iL_home_15 : am_at 113 15 (.iconst 1) 1 16 := ⟨by decide +kernel, rfl⟩
theorem iL_home_16 : am_at 113 16 (.ireturn) 1 17 := ⟨by decide +kernel, rfl⟩
theorem iL_home_17 : am_at 113 17 (.iconst 0) 1 18 := ⟨by decide +kernel, rfl⟩
theorem iL_home_18 : am_at 113 18 (.ireturn) 1 19 := ⟨by decide +kernel, rfl⟩
theorem iL_command_0 : am_at 114 0 (.aload 6) 2 2 := ⟨by decide +kernel, rfl⟩
theorem iL_command_2 : am_at 114 2 (.iconst 0) 1 3 := ⟨by decide +kernel, rfl⟩
theorem iL_command_3 : am_at 114 3 (.aload_n 0) 1 4 := ⟨by decide +kernel, rfl⟩
theorem iL_command_4 : am_at 114 4 (.iload_n 1) 1 5 := ⟨by decide +kernel, rfl⟩
theorem iL_command_5 : am_at 114 5 (.iload_n 2) 1 6 := ⟨by decide +kernel, rfl⟩
theorem iL_command_6 : am_at 114 6 (.iload_n 3) 1 7 := ⟨by decide +kernel, rfl⟩
theorem iL_command_7 : am_at 114 7 (.iload 4) 2 9 := ⟨by decide +kernel, rfl⟩
theorem iL_command_9 : am_at 114 9 (.iload 5) 2 11 := ⟨by decide +kernel, rfl⟩
theorem iL_command_11 : am_at 114 11 (.invokevirtual 20) 3 14 := ⟨by decide +kernel, rfl⟩
theorem cL_command_20 : am_sV 114 20 26 6 := ⟨wd_347, wd_348, wd_349, rfl, by decide⟩
theorem iL_command_14 : am_at 114 14 (.lastore) 1 15 := ⟨by decide +kernel, rfl⟩
theorem iL_command_15 : am_jp 114 15 (.goto 15) 15 30 18 := ⟨by decide +kernel, by decide, rfl⟩
theorem iL_command_18 : am_at 114 18 (.astore 7) 2 20 := ⟨by decide +kernel, rfl⟩
theorem iL_command_20 : am_at 114 20 (.iconst 1) 1 21 := ⟨by decide +kernel, rfl⟩
theorem iL_command_21 : am_at 114 21 (.ireturn) 1 22 := ⟨by decide +kernel, rfl⟩
theorem iL_command_22 : am_at 114 22 (.astore 7) 2 24 := ⟨by decide +kernel, rfl⟩
theorem iL_command_24 : am_at 114 24 (.iconst 2) 1 25 := ⟨by decide +kernel, rfl⟩
theorem iL_command_25 : am_at 114 25 (.ireturn) 1 26 := ⟨by decide +kernel, rfl⟩
theorem iL_command_26 : am_at 114 26 (.astore 7) 2 28 := ⟨by decide +kernel, rfl⟩
theorem iL_command_28 : am_at 114 28 (.iconst 3) 1 29 := ⟨by decide +kernel, rfl⟩
theorem iL_command_29 : am_at 114 29 (.ireturn) 1 30 := ⟨by decide +kernel, rfl⟩
theorem iL_command_30 : am_at 114 30 (.iconst 0) 1 31 := ⟨by decide +kernel, rfl⟩
theorem iL_command_31 : am_at 114 31 (.ireturn) 1 32 := ⟨by decide +kernel, rfl⟩
theorem iL_step_0 : am_at 115 0 (.aload_n 3) 1 1 := ⟨by decide +kernel, rfl⟩
theorem iL_step_1 : am_at 115 1 (.iconst 0) 1 2 := ⟨by decide +kernel, rfl⟩
theorem iL_step_2 : am_at 115 2 (.aload_n 0) 1 3 := ⟨by decide +kernel, rfl⟩
theorem iL_step_3 : am_at 115 3 (.iload_n 1) 1 4 := ⟨by decide +kernel, rfl⟩
theorem iL_step_4 : am_at 115 4 (.iload_n 2) 1 5 := ⟨by decide +kernel, rfl⟩
theorem iL_step_5 : am_at 115 5 (.invokevirtual 26) 3 8 := ⟨by decide +kernel, rfl⟩
theorem cL_step_26 : am_sV 115 26 27 6 := ⟨wd_419, wd_420, wd_421, rfl, by decide⟩
theorem iL_step_8 : am_at 115 8 (.i2l) 1 9 := ⟨by decide +kernel, rfl⟩
theorem iL_step_9 : am_at 115 9 (.lastore) 1 10 := ⟨by decide +kernel, rfl⟩
theorem iL_step_10 : am_jp 115 10 (.goto 7) 7 17 13 := ⟨by decide +kernel, by decide, rfl⟩
theorem iL_step_13 : am_at 115 13 (.astore 4) 2 15 := ⟨by decide +kernel, rfl⟩
theorem iL_step_15 : am_at 115 15 (.iconst 1) 1 16 := ⟨by decide +kernel, rfl⟩
theorem iL_step_16 : am_at 115 16 (.ireturn) 1 17 := ⟨by decide +kernel, rfl⟩
theorem iL_step_17 : am_at 115 17 (.iconst 0) 1 18 := ⟨by decide +kernel, rfl⟩
theorem iL_step_18 : am_at 115 18 (.ireturn) 1 19 := ⟨by decide +kernel, rfl⟩
theorem iL_speed_0 : am_at 116 0 (.aload_n 3) 1 1 := ⟨by decide +kernel, rfl⟩
theorem iL_speed_1 : am_at 116 1 (.iconst 0) 1 2 := ⟨by decide +kernel, rfl⟩
theorem iL_speed_2 : am_at 116 2 (.aload_n 0) 1 3 := ⟨by decide +kernel, rfl⟩
theorem iL_speed_3 : am_at 116 3 (.iload_n 1) 1 4 := ⟨by decide +kernel, rfl⟩
theorem iL_speed_4 : am_at 116 4 (.iload_n 2) 1 5 := ⟨by decide +kernel, rfl⟩
theorem iL_speed_5 : am_at 116 5 (.invokevirtual 29) 3 8 := ⟨by decide +kernel, rfl⟩
theorem cL_speed_29 : am_sV 116 29 28 6 := ⟨wd_459, wd_460, wd_461, rfl, by decide⟩
theorem iL_speed_8 : am_at 116 8 (.i2l) 1 9 := ⟨by decide +kernel, rfl⟩
theorem iL_speed_9 : am_at 116 9 (.lastore) 1 10 := ⟨by decide +kernel, rfl⟩
theorem iL_speed_10 : am_jp 116 10 (.goto 11) 11 21 13 := ⟨by decide +kernel, by decide, rfl⟩
theorem iL_speed_13 : am_at 116 13 (.astore 4) 2 15 := ⟨by decide +kernel, rfl⟩
theorem iL_speed_15 : am_at 116 15 (.iconst 1) 1 16 := ⟨by decide +kernel, rfl⟩
theorem iL_speed_16 : am_at 116 16 (.ireturn) 1 17 := ⟨by decide +kernel, rfl⟩
theorem iL_speed_17 : am_at 116 17 (.astore 4) 2 19 := ⟨by decide +kernel, rfl⟩
theorem iL_speed_19 : am_at 116 19 (.iconst 2) 1 20 := ⟨by decide +kernel, rfl⟩
theorem iL_speed_20 : am_at 116 20 (.ireturn) 1 21 := ⟨by decide +kernel, rfl⟩
theorem iL_speed_21 : am_at 116 21 (.iconst 0) 1 22 := ⟨by decide +kernel, rfl⟩
theorem iL_speed_22 : am_at 116 22 (.ireturn) 1 23 := ⟨by decide +kernel, rfl⟩
theorem iL_ticks_0 : am_at 117 0 (.aload_n 2) 1 1 := ⟨by decide +kernel, rfl⟩
theorem iL_ticks_1 : am_at 117 1 (.iconst 0) 1 2 := ⟨by decide +kernel, rfl⟩
theorem iL_ticks_2 : am_at 117 2 (.aload_n 0) 1 3 := ⟨by decide +kernel, rfl⟩
theorem iL_ticks_3 : am_at 117 3 (.iload_n 1) 1 4 := ⟨by decide +kernel, rfl⟩
theorem iL_ticks_4 : am_at 117 4 (.invokevirtual 32) 3 7 := ⟨by decide +kernel, rfl⟩
theorem cL_ticks_32 : am_sV 117 32 29 6 := ⟨wd_466, wd_467, wd_468, rfl, by decide⟩
theorem iL_ticks_7 : am_at 117 7 (.i2l) 1 8 := ⟨by decide +kernel, rfl⟩
theorem iL_ticks_8 : am_at 117 8 (.lastore) 1 9 := ⟨by decide +kernel, rfl⟩
theorem iL_ticks_9 : am_jp 117 9 (.goto 6) 6 15 12 := ⟨by decide +kernel, by decide, rfl⟩
theorem iL_ticks_12 : am_at 117 12 (.astore_n 3) 1 13 := ⟨by decide +kernel, rfl⟩
theorem iL_ticks_13 : am_at 117 13 (.iconst 1) 1 14 := ⟨by decide +kernel, rfl⟩
theorem iL_ticks_14 : am_at 117 14 (.ireturn) 1 15 := ⟨by decide +kernel, rfl⟩
theorem iL_ticks_15 : am_at 117 15 (.iconst 0) 1 16 := ⟨by decide +kernel, rfl⟩
theorem iL_ticks_16 : am_at 117 16 (.ireturn) 1 17 := ⟨by decide +kernel, rfl⟩
theorem iL_up_0 : am_at 118 0 (.aload_n 3) 1 1 := ⟨by decide +kernel, rfl⟩
theorem iL_up_1 : am_at 118 1 (.iconst 0) 1 2 := ⟨by decide +kernel, rfl⟩
theorem iL_up_2 : am_at 118 2 (.aload_n 0) 1 3 := ⟨by decide +kernel, rfl⟩
theorem iL_up_3 : am_at 118 3 (.iload_n 1) 1 4 := ⟨by decide +kernel, rfl⟩
theorem iL_up_4 : am_at 118 4 (.iload_n 2) 1 5 := ⟨by decide +kernel, rfl⟩
theorem iL_up_5 : am_at 118 5 (.invokevirtual 36) 3 8 := ⟨by decide +kernel, rfl⟩
theorem cL_up_36 : am_sV 118 36 30 6 := ⟨wd_485, wd_486, wd_487, rfl, by decide⟩
theorem iL_up_8 : am_jp 118 8 (.ifCond .eq 7) 7 15 11 := ⟨by decide +kernel, by decide, rfl⟩
theorem iL_up_11 : am_at 118 11 (.lconst 1) 1 12 := ⟨by decide +kernel, rfl⟩
theorem iL_up_12 : am_jp 118 12 (.goto 4) 4 16 15 := ⟨by decide +kernel, by decide, rfl⟩
theorem iL_up_15 : am_at 118 15 (.lconst 0) 1 16 := ⟨by decide +kernel, rfl⟩
theorem iL_up_16 : am_at 118 16 (.lastore) 1 17 := ⟨by decide +kernel, rfl⟩
theorem iL_up_17 : am_jp 118 17 (.goto 7) 7 24 20 := ⟨by decide +kernel, by decide, rfl⟩
theorem iL_up_20 : am_at 118 20 (.astore 4) 2 22 := ⟨by decide +kernel, rfl⟩
theorem iL_up_22 : am_at 118 22 (.iconst 1) 1 23 := ⟨by decide +kernel, rfl⟩
theorem iL_up_23 : am_at 118 23 (.ireturn) 1 24 := ⟨by decide +kernel, rfl⟩
theorem iL_up_24 : am_at 118 24 (.iconst 0) 1 25 := ⟨by decide +kernel, rfl⟩
theorem iL_up_25 : am_at 118 25 (.ireturn) 1 26 := ⟨by decide +kernel, rfl⟩
theorem iL_snapshot_0 : am_at 119 0 (.aload_n 2) 1 1 := ⟨by decide +kernel, rfl⟩
theorem iL_snapshot_1 : am_at 119 1 (.iconst 0) 1 2 := ⟨by decide +kernel, rfl⟩
theorem iL_snapshot_2 : am_at 119 2 (.aload_n 0) 1 3 := ⟨by decide +kernel, rfl⟩
theorem iL_snapshot_3 : am_at 119 3 (.iload_n 1) 1 4 := ⟨by decide +kernel, rfl⟩
theorem iL_snapshot_4 : am_at 119 4 (.invokevirtual 40) 3 7 := ⟨by decide +kernel, rfl⟩
theorem cL_snapshot_40 : am_sV 119 40 31 6 := ⟨wd_492, wd_493, wd_494, rfl, by decide⟩
theorem iL_snapshot_7 : am_at 119 7 (.i2l) 1 8 := ⟨by decide +kernel, rfl⟩
theorem iL_snapshot_8 : am_at 119 8 (.lastore) 1 9 := ⟨by decide +kernel, rfl⟩
theorem iL_snapshot_9 : am_jp 119 9 (.goto 6) 6 15 12 := ⟨by decide +kernel, by decide, rfl⟩
theorem iL_snapshot_12 : am_at 119 12 (.astore_n 3) 1 13 := ⟨by decide +kernel, rfl⟩
theorem iL_snapshot_13 : am_at 119 13 (.iconst 1) 1 14 := ⟨by decide +kernel, rfl⟩
theorem iL_snapshot_14 : am_at 119 14 (.ireturn) 1 15 := ⟨by decide +kernel, rfl⟩
theorem iL_snapshot_15 : am_at 119 15 (.iconst 0) 1 16 := ⟨by decide +kernel, rfl⟩
theorem iL_snapshot_16 : am_at 119 16 (.ireturn) 1 17 := ⟨by decide +kernel, rfl⟩
theorem iL_crash_0 : am_at 120 0 (.aload_n 2) 1 1 := ⟨by decide +kernel, rfl⟩
theorem iL_crash_1 : am_at 120 1 (.iconst 0) 1 2 := ⟨by decide +kernel, rfl⟩
theorem iL_crash_2 : am_at 120 2 (.aload_n 0) 1 3 := ⟨by decide +kernel, rfl⟩
theorem iL_crash_3 : am_at 120 3 (.iload_n 1) 1 4 := ⟨by decide +kernel, rfl⟩
theorem iL_crash_4 : am_at 120 4 (.invokevirtual 43) 3 7 := ⟨by decide +kernel, rfl⟩
theorem cL_crash_43 : am_sV 120 43 32 6 := ⟨wd_514, wd_515, wd_516, rfl, by decide⟩
theorem iL_crash_7 : am_at 120 7 (.i2l) 1 8 := ⟨by decide +kernel, rfl⟩
theorem iL_crash_8 : am_at 120 8 (.lastore) 1 9 := ⟨by decide +kernel, rfl⟩
theorem iL_crash_9 : am_jp 120 9 (.goto 6) 6 15 12 := ⟨by decide +kernel, by decide, rfl⟩
theorem iL_crash_12 : am_at 120 12 (.astore_n 3) 1 13 := ⟨by decide +kernel, rfl⟩
theorem iL_crash_13 : am_at 120 13 (.iconst 1) 1 14 := ⟨by decide +kernel, rfl⟩
theorem iL_crash_14 : am_at 120 14 (.ireturn) 1 15 := ⟨by decide +kernel, rfl⟩
theorem iL_crash_15 : am_at 120 15 (.iconst 0) 1 16 := ⟨by decide +kernel, rfl⟩
theorem iL_crash_16 : am_at 120 16 (.ireturn) 1 17 := ⟨by decide +kernel, rfl⟩
theorem iL_ask_0 : am_at 121 0 (.aload 8) 2 2 := ⟨by decide +kernel, rfl⟩
theorem iL_ask_2 : am_at 121 2 (.iconst 0) 1 3 := ⟨by decide +kernel, rfl⟩
theorem iL_ask_3 : am_at 121 3 (.aload_n 0) 1 4 := ⟨by decide +kernel, rfl⟩
theorem iL_ask_4 : am_at 121 4 (.iload_n 1) 1 5 := ⟨by decide +kernel, rfl⟩
theorem iL_ask_5 : am_at 121 5 (.lload_n 2) 1 6 := ⟨by decide +kernel, rfl⟩
theorem iL_ask_6 : am_at 121 6 (.iload 4) 2 8 := ⟨by decide +kernel, rfl⟩
theorem iL_ask_8 : am_at 121 8 (.iload 5) 2 10 := ⟨by decide +kernel, rfl⟩
theorem iL_ask_10 : am_at 121 10 (.iload 6) 2 12 := ⟨by decide +kernel, rfl⟩
theorem iL_ask_12 : am_at 121 12 (.iload 7) 2 14 := ⟨by decide +kernel, rfl⟩
theorem iL_ask_14 : am_at 121 14 (.invokevirtual 46) 3 17 := ⟨by decide +kernel, rfl⟩
theorem cL_ask_46 : am_sV 121 46 34 6 := ⟨wd_525, wd_526, wd_527, rfl, by decide⟩
theorem iL_ask_17 : am_at 121 17 (.i2l) 1 18 := ⟨by decide +kernel, rfl⟩
theorem iL_ask_18 : am_at 121 18 (.lastore) 1 19 := ⟨by decide +kernel, rfl⟩
theorem iL_ask_19 : am_jp 121 19 (.goto 15) 15 34 22 := ⟨by decide +kernel, by decide, rfl⟩
theorem iL_ask_22 : am_at 121 22 (.astore 9) 2 24 := ⟨by decide +kernel, rfl⟩
theorem iL_ask_24 : am_at 121 24 (.iconst 1) 1 25 := ⟨by decide +kernel, rfl⟩
theorem iL_ask_25 : am_at 121 25 (.ireturn) 1 26 := ⟨by decide +kernel, rfl⟩
theorem iL_ask_26 : am_at 121 26 (.astore 9) 2 28 := ⟨by decide +kernel, rfl⟩
theorem iL_ask_28 : am_at 121 28 (.iconst 2) 1 29 := ⟨by decide +kernel, rfl⟩
theorem iL_ask_29 : am_at 121 29 (.ireturn) 1 30 := ⟨by decide +kernel, rfl⟩
theorem iL_ask_30 : am_at 121 30 (.astore 9) 2 32 := ⟨by decide +kernel, rfl⟩
theorem iL_ask_32 : am_at 121 32 (.iconst 3) 1 33 := ⟨by decide +kernel, rfl⟩
theorem iL_ask_33 : am_at 121 33 (.ireturn) 1 34 := ⟨by decide +kernel, rfl⟩
theorem iL_ask_34 : am_at 121 34 (.iconst 0) 1 35 := ⟨by decide +kernel, rfl⟩
theorem iL_ask_35 : am_at 121 35 (.ireturn) 1 36 := ⟨by decide +kernel, rfl⟩
theorem iL_read_0 : am_at 122 0 (.aload_n 3) 1 1 := ⟨by decide +kernel, rfl⟩
theorem iL_read_1 : am_at 122 1 (.iconst 0) 1 2 := ⟨by decide +kernel, rfl⟩
theorem iL_read_2 : am_at 122 2 (.aload_n 0) 1 3 := ⟨by decide +kernel, rfl⟩
theorem iL_read_3 : am_at 122 3 (.iload_n 1) 1 4 := ⟨by decide +kernel, rfl⟩
theorem iL_read_4 : am_at 122 4 (.iload_n 2) 1 5 := ⟨by decide +kernel, rfl⟩
theorem iL_read_5 : am_at 122 5 (.invokevirtual 50) 3 8 := ⟨by decide +kernel, rfl⟩
theorem cL_read_50 : am_sV 122 50 35 6 := ⟨wd_598, wd_599, wd_600, rfl, by decide⟩
theorem iL_read_8 : am_at 122 8 (.lastore) 1 9 := ⟨by decide +kernel, rfl⟩
theorem iL_read_9 : am_jp 122 9 (.goto 7) 7 16 12 := ⟨by decide +kernel, by decide, rfl⟩
theorem iL_read_12 : am_at 122 12 (.astore 4) 2 14 := ⟨by decide +kernel, rfl⟩
theorem iL_read_14 : am_at 122 14 (.iconst 1) 1 15 := ⟨by decide +kernel, rfl⟩
theorem iL_read_15 : am_at 122 15 (.ireturn) 1 16 := ⟨by decide +kernel, rfl⟩
theorem iL_read_16 : am_at 122 16 (.iconst 0) 1 17 := ⟨by decide +kernel, rfl⟩
theorem iL_read_17 : am_at 122 17 (.ireturn) 1 18 := ⟨by decide +kernel, rfl⟩
theorem iL_value_0 : am_at 123 0 (.aload 4) 2 2 := ⟨by decide +kernel, rfl⟩
theorem iL_value_2 : am_at 123 2 (.iconst 0) 1 3 := ⟨by decide +kernel, rfl⟩
theorem iL_value_3 : am_at 123 3 (.aload_n 0) 1 4 := ⟨by decide +kernel, rfl⟩
theorem iL_value_4 : am_at 123 4 (.iload_n 1) 1 5 := ⟨by decide +kernel, rfl⟩
theorem iL_value_5 : am_at 123 5 (.iload_n 2) 1 6 := ⟨by decide +kernel, rfl⟩
theorem iL_value_6 : am_at 123 6 (.iload_n 3) 1 7 := ⟨by decide +kernel, rfl⟩
theorem iL_value_7 : am_at 123 7 (.invokevirtual 54) 3 10 := ⟨by decide +kernel, rfl⟩
theorem cL_value_54 : am_sV 123 54 36 6 := ⟨wd_606, wd_607, wd_608, rfl, by decide⟩
theorem iL_value_10 : am_at 123 10 (.lastore) 1 11 := ⟨by decide +kernel, rfl⟩
theorem iL_value_11 : am_jp 123 11 (.goto 7) 7 18 14 := ⟨by decide +kernel, by decide, rfl⟩
theorem iL_value_14 : am_at 123 14 (.astore 5) 2 16 := ⟨by decide +kernel, rfl⟩
theorem iL_value_16 : am_at 123 16 (.iconst 1) 1 17 := ⟨by decide +kernel, rfl⟩
theorem iL_value_17 : am_at 123 17 (.ireturn) 1 18 := ⟨by decide +kernel, rfl⟩
theorem iL_value_18 : am_at 123 18 (.iconst 0) 1 19 := ⟨by decide +kernel, rfl⟩
theorem iL_value_19 : am_at 123 19 (.ireturn) 1 20 := ⟨by decide +kernel, rfl⟩
theorem iL_at_0 : am_at 124 0 (.aload_n 3) 1 1 := ⟨by decide +kernel, rfl⟩
theorem iL_at_1 : am_at 124 1 (.iconst 0) 1 2 := ⟨by decide +kernel, rfl⟩
theorem iL_at_2 : am_at 124 2 (.aload_n 0) 1 3 := ⟨by decide +kernel, rfl⟩
theorem iL_at_3 : am_at 124 3 (.iload_n 1) 1 4 := ⟨by decide +kernel, rfl⟩
theorem iL_at_4 : am_at 124 4 (.iload_n 2) 1 5 := ⟨by decide +kernel, rfl⟩
theorem iL_at_5 : am_at 124 5 (.invokevirtual 58) 3 8 := ⟨by decide +kernel, rfl⟩
theorem cL_at_58 : am_sV 124 58 37 6 := ⟨wd_613, wd_614, wd_615, rfl, by decide⟩
theorem iL_at_8 : am_at 124 8 (.i2l) 1 9 := ⟨by decide +kernel, rfl⟩
theorem iL_at_9 : am_at 124 9 (.lastore) 1 10 := ⟨by decide +kernel, rfl⟩
theorem iL_at_10 : am_jp 124 10 (.goto 7) 7 17 13 := ⟨by decide +kernel, by decide, rfl⟩
theorem iL_at_13 : am_at 124 13 (.astore 4) 2 15 := ⟨by decide +kernel, rfl⟩
theorem iL_at_15 : am_at 124 15 (.iconst 1) 1 16 := ⟨by decide +kernel, rfl⟩
theorem iL_at_16 : am_at 124 16 (.ireturn) 1 17 := ⟨by decide +kernel, rfl⟩
theorem iL_at_17 : am_at 124 17 (.iconst 0) 1 18 := ⟨by decide +kernel, rfl⟩
theorem iL_at_18 : am_at 124 18 (.ireturn) 1 19 := ⟨by decide +kernel, rfl⟩
theorem iL_kept_0 : am_at 125 0 (.aload_n 3) 1 1 := ⟨by decide +kernel, rfl⟩
theorem iL_kept_1 : am_at 125 1 (.iconst 0) 1 2 := ⟨by decide +kernel, rfl⟩
theorem iL_kept_2 : am_at 125 2 (.aload_n 0) 1 3 := ⟨by decide +kernel, rfl⟩
theorem iL_kept_3 : am_at 125 3 (.iload_n 1) 1 4 := ⟨by decide +kernel, rfl⟩
theorem iL_kept_4 : am_at 125 4 (.iload_n 2) 1 5 := ⟨by decide +kernel, rfl⟩
theorem iL_kept_5 : am_at 125 5 (.invokevirtual 61) 3 8 := ⟨by decide +kernel, rfl⟩
theorem cL_kept_61 : am_sV 125 61 38 6 := ⟨wd_620, wd_621, wd_622, rfl, by decide⟩
theorem iL_kept_8 : am_at 125 8 (.i2l) 1 9 := ⟨by decide +kernel, rfl⟩
theorem iL_kept_9 : am_at 125 9 (.lastore) 1 10 := ⟨by decide +kernel, rfl⟩
theorem iL_kept_10 : am_jp 125 10 (.goto 7) 7 17 13 := ⟨by decide +kernel, by decide, rfl⟩
theorem iL_kept_13 : am_at 125 13 (.astore 4) 2 15 := ⟨by decide +kernel, rfl⟩
theorem iL_kept_15 : am_at 125 15 (.iconst 1) 1 16 := ⟨by decide +kernel, rfl⟩
theorem iL_kept_16 : am_at 125 16 (.ireturn) 1 17 := ⟨by decide +kernel, rfl⟩
theorem iL_kept_17 : am_at 125 17 (.iconst 0) 1 18 := ⟨by decide +kernel, rfl⟩
theorem iL_kept_18 : am_at 125 18 (.ireturn) 1 19 := ⟨by decide +kernel, rfl⟩
theorem iL_log_0 : am_at 126 0 (.aload_n 3) 1 1 := ⟨by decide +kernel, rfl⟩
theorem iL_log_1 : am_at 126 1 (.iconst 0) 1 2 := ⟨by decide +kernel, rfl⟩
theorem iL_log_2 : am_at 126 2 (.aload_n 0) 1 3 := ⟨by decide +kernel, rfl⟩
theorem iL_log_3 : am_at 126 3 (.iload_n 1) 1 4 := ⟨by decide +kernel, rfl⟩
theorem iL_log_4 : am_at 126 4 (.iload_n 2) 1 5 := ⟨by decide +kernel, rfl⟩
theorem iL_log_5 : am_at 126 5 (.invokevirtual 64) 3 8 := ⟨by decide +kernel, rfl⟩
theorem cL_log_64 : am_sV 126 64 39 6 := ⟨wd_627, wd_628, wd_629, rfl, by decide⟩
theorem iL_log_8 : am_at 126 8 (.i2l) 1 9 := ⟨by decide +kernel, rfl⟩
theorem iL_log_9 : am_at 126 9 (.lastore) 1 10 := ⟨by decide +kernel, rfl⟩
theorem iL_log_10 : am_jp 126 10 (.goto 7) 7 17 13 := ⟨by decide +kernel, by decide, rfl⟩
theorem iL_log_13 : am_at 126 13 (.astore 4) 2 15 := ⟨by decide +kernel, rfl⟩
theorem iL_log_15 : am_at 126 15 (.iconst 1) 1 16 := ⟨by decide +kernel, rfl⟩
theorem iL_log_16 : am_at 126 16 (.ireturn) 1 17 := ⟨by decide +kernel, rfl⟩
theorem iL_log_17 : am_at 126 17 (.iconst 0) 1 18 := ⟨by decide +kernel, rfl⟩
theorem iL_log_18 : am_at 126 18 (.ireturn) 1 19 := ⟨by decide +kernel, rfl⟩
end
section
theorem iL_logged_0 : am_at 127 0 (.aload 4) 2 2 := ⟨by decide +kernel, rfl⟩
theorem iL_logged_2 : am_at 127 2 (.iconst 0) 1 3 := ⟨by decide +kernel, rfl⟩
theorem iL_logged_3 : am_at 127 3 (.aload_n 0) 1 4 := ⟨by decide +kernel, rfl⟩
theorem iL_logged_4 : am_at 127 4 (.iload_n 1) 1 5 := ⟨by decide +kernel, rfl⟩
theorem iL_logged_5 : am_at 127 5 (.iload_n 2) 1 6 := ⟨by decide +kernel, rfl⟩
theorem iL_logged_6 : am_at 127 6 (.iload_n 3) 1 7 := ⟨by decide +kernel, rfl⟩
theorem iL_logged_7 : am_at 127 7 (.invokevirtual 67) 3 10 := ⟨by decide +kernel, rfl⟩
theorem cL_logged_67 : am_sV 127 67 40 6 := ⟨wd_634, wd_635, wd_636, rfl, by decide⟩
theorem iL_logged_10 : am_at 127 10 (.i2l) 1 11 := ⟨by decide +kernel, rfl⟩
theorem iL_logged_11 : am_at 127 11 (.lastore) 1 12 := ⟨by decide +kernel, rfl⟩
theorem iL_logged_12 : am_jp 127 12 (.goto 7) 7 19 15 := ⟨by decide +kernel, by decide, rfl⟩
theorem iL_logged_15 : am_at 127 15 (.astore 5) 2 17 := ⟨by decide +kernel, rfl⟩
theorem iL_logged_17 : am_at 127 17 (.iconst 1) 1 18 := ⟨by decide +kernel, rfl⟩
theorem iL_logged_18 : am_at 127 18 (.ireturn) 1 19 := ⟨by decide +kernel, rfl⟩
theorem iL_logged_19 : am_at 127 19 (.iconst 0) 1 20 := ⟨by decide +kernel, rfl⟩
theorem iL_logged_20 : am_at 127 20 (.ireturn) 1 21 := ⟨by decide +kernel, rfl⟩
theorem iL_session_0 : am_at 128 0 (.aload 4) 2 2 := ⟨by decide +kernel, rfl⟩
theorem iL_session_2 : am_at 128 2 (.iconst 0) 1 3 := ⟨by decide +kernel, rfl⟩
theorem iL_session_3 : am_at 128 3 (.aload_n 0) 1 4 := ⟨by decide +kernel, rfl⟩
theorem iL_session_4 : am_at 128 4 (.iload_n 1) 1 5 := ⟨by decide +kernel, rfl⟩
theorem iL_session_5 : am_at 128 5 (.iload_n 2) 1 6 := ⟨by decide +kernel, rfl⟩
theorem iL_session_6 : am_at 128 6 (.iload_n 3) 1 7 := ⟨by decide +kernel, rfl⟩
theorem iL_session_7 : am_at 128 7 (.invokevirtual 71) 3 10 := ⟨by decide +kernel, rfl⟩
theorem cL_session_71 : am_sV 128 71 41 6 := ⟨wd_642, wd_643, wd_644, rfl, by decide⟩
theorem iL_session_10 : am_at 128 10 (.i2l) 1 11 := ⟨by decide +kernel, rfl⟩
theorem iL_session_11 : am_at 128 11 (.lastore) 1 12 := ⟨by decide +kernel, rfl⟩
theorem iL_session_12 : am_jp 128 12 (.goto 7) 7 19 15 := ⟨by decide +kernel, by decide, rfl⟩
theorem iL_session_15 : am_at 128 15 (.astore 5) 2 17 := ⟨by decide +kernel, rfl⟩
theorem iL_session_17 : am_at 128 17 (.iconst 1) 1 18 := ⟨by decide +kernel, rfl⟩
theorem iL_session_18 : am_at 128 18 (.ireturn) 1 19 := ⟨by decide +kernel, rfl⟩
theorem iL_session_19 : am_at 128 19 (.iconst 0) 1 20 := ⟨by decide +kernel, rfl⟩
theorem iL_session_20 : am_at 128 20 (.ireturn) 1 21 := ⟨by decide +kernel, rfl⟩
theorem iL_told_0 : am_at 129 0 (.aload 4) 2 2 := ⟨by decide +kernel, rfl⟩
theorem iL_told_2 : am_at 129 2 (.iconst 0) 1 3 := ⟨by decide +kernel, rfl⟩
theorem iL_told_3 : am_at 129 3 (.aload_n 0) 1 4 := ⟨by decide +kernel, rfl⟩
theorem iL_told_4 : am_at 129 4 (.lload_n 1) 1 5 := ⟨by decide +kernel, rfl⟩
theorem iL_told_5 : am_at 129 5 (.iload_n 3) 1 6 := ⟨by decide +kernel, rfl⟩
theorem iL_told_6 : am_at 129 6 (.invokevirtual 74) 3 9 := ⟨by decide +kernel, rfl⟩
theorem cL_told_74 : am_sV 129 74 42 6 := ⟨wd_649, wd_650, wd_651, rfl, by decide⟩
theorem iL_told_9 : am_at 129 9 (.i2l) 1 10 := ⟨by decide +kernel, rfl⟩
theorem iL_told_10 : am_at 129 10 (.lastore) 1 11 := ⟨by decide +kernel, rfl⟩
theorem iL_told_11 : am_jp 129 11 (.goto 11) 11 22 14 := ⟨by decide +kernel, by decide, rfl⟩
theorem iL_told_14 : am_at 129 14 (.astore 5) 2 16 := ⟨by decide +kernel, rfl⟩
theorem iL_told_16 : am_at 129 16 (.iconst 1) 1 17 := ⟨by decide +kernel, rfl⟩
theorem iL_told_17 : am_at 129 17 (.ireturn) 1 18 := ⟨by decide +kernel, rfl⟩
theorem iL_told_18 : am_at 129 18 (.astore 5) 2 20 := ⟨by decide +kernel, rfl⟩
theorem iL_told_20 : am_at 129 20 (.iconst 2) 1 21 := ⟨by decide +kernel, rfl⟩
theorem iL_told_21 : am_at 129 21 (.ireturn) 1 22 := ⟨by decide +kernel, rfl⟩
theorem iL_told_22 : am_at 129 22 (.iconst 0) 1 23 := ⟨by decide +kernel, rfl⟩
theorem iL_told_23 : am_at 129 23 (.ireturn) 1 24 := ⟨by decide +kernel, rfl⟩
theorem iL_count_0 : am_at 130 0 (.aload_n 2) 1 1 := ⟨by decide +kernel, rfl⟩
theorem iL_count_1 : am_at 130 1 (.iconst 0) 1 2 := ⟨by decide +kernel, rfl⟩
theorem iL_count_2 : am_at 130 2 (.aload_n 0) 1 3 := ⟨by decide +kernel, rfl⟩
theorem iL_count_3 : am_at 130 3 (.iload_n 1) 1 4 := ⟨by decide +kernel, rfl⟩
theorem iL_count_4 : am_at 130 4 (.invokevirtual 78) 3 7 := ⟨by decide +kernel, rfl⟩
theorem cL_count_78 : am_sV 130 78 43 6 := ⟨wd_656, wd_657, wd_658, rfl, by decide⟩
theorem iL_count_7 : am_at 130 7 (.i2l) 1 8 := ⟨by decide +kernel, rfl⟩
theorem iL_count_8 : am_at 130 8 (.lastore) 1 9 := ⟨by decide +kernel, rfl⟩
theorem iL_count_9 : am_jp 130 9 (.goto 6) 6 15 12 := ⟨by decide +kernel, by decide, rfl⟩
theorem iL_count_12 : am_at 130 12 (.astore_n 3) 1 13 := ⟨by decide +kernel, rfl⟩
theorem iL_count_13 : am_at 130 13 (.iconst 1) 1 14 := ⟨by decide +kernel, rfl⟩
theorem iL_count_14 : am_at 130 14 (.ireturn) 1 15 := ⟨by decide +kernel, rfl⟩
theorem iL_count_15 : am_at 130 15 (.iconst 0) 1 16 := ⟨by decide +kernel, rfl⟩
theorem iL_count_16 : am_at 130 16 (.ireturn) 1 17 := ⟨by decide +kernel, rfl⟩
end
section
theorem iL_law_0 : am_at 131 0 (.new 8) 3 3 := ⟨by decide +kernel, rfl⟩
theorem iL_law_3 : am_at 131 3 (.dup) 1 4 := ⟨by decide +kernel, rfl⟩
theorem iL_law_4 : am_at 131 4 (.aload_n 0) 1 5 := ⟨by decide +kernel, rfl⟩
theorem iL_law_5 : am_at 131 5 (.iconst 0) 1 6 := ⟨by decide +kernel, rfl⟩
theorem iL_law_6 : am_at 131 6 (.invokestatic 81) 3 9 := ⟨by decide +kernel, rfl⟩
theorem cL_law_81 : am_sS 131 81 111 := ⟨wd_180, wd_181, wd_0⟩
theorem iL_law_9 : am_at 131 9 (.aload_n 0) 1 10 := ⟨by decide +kernel, rfl⟩
theorem iL_law_10 : am_at 131 10 (.iconst 1) 1 11 := ⟨by decide +kernel, rfl⟩
theorem iL_law_11 : am_at 131 11 (.invokestatic 81) 3 14 := ⟨by decide +kernel, rfl⟩
theorem iL_law_14 : am_at 131 14 (.invokespecial 87) 3 17 := ⟨by decide +kernel, rfl⟩
theorem cL_law_87 : am_sI 131 87 23 := ⟨Or.inl wd_19, wd_20, rfl, wd_21⟩
theorem iL_law_17 : am_at 131 17 (.astore_n 1) 1 18 := ⟨by decide +kernel, rfl⟩
theorem iL_law_18 : am_at 131 18 (.new 90) 3 21 := ⟨by decide +kernel, rfl⟩
theorem iL_law_21 : am_at 131 21 (.dup) 1 22 := ⟨by decide +kernel, rfl⟩
theorem iL_law_22 : am_at 131 22 (.aload_n 0) 1 23 := ⟨by decide +kernel, rfl⟩
theorem iL_law_23 : am_at 131 23 (.iconst 0) 1 24 := ⟨by decide +kernel, rfl⟩
theorem iL_law_24 : am_at 131 24 (.invokestatic 81) 3 27 := ⟨by decide +kernel, rfl⟩
theorem iL_law_27 : am_at 131 27 (.aload_n 0) 1 28 := ⟨by decide +kernel, rfl⟩
theorem iL_law_28 : am_at 131 28 (.iconst 1) 1 29 := ⟨by decide +kernel, rfl⟩
theorem iL_law_29 : am_at 131 29 (.invokestatic 81) 3 32 := ⟨by decide +kernel, rfl⟩
theorem iL_law_32 : am_at 131 32 (.invokespecial 92) 3 35 := ⟨by decide +kernel, rfl⟩
theorem cL_law_92 : am_sI 131 92 65 := ⟨Or.inl wd_662, wd_663, rfl, wd_664⟩
theorem iL_law_35 : am_at 131 35 (.astore_n 2) 1 36 := ⟨by decide +kernel, rfl⟩
theorem iL_law_36 : am_at 131 36 (.iconst 1) 1 37 := ⟨by decide +kernel, rfl⟩
theorem iL_law_37 : am_at 131 37 (.newarray .long) 2 39 := ⟨by decide +kernel, rfl⟩
theorem iL_law_39 : am_at 131 39 (.astore_n 3) 1 40 := ⟨by decide +kernel, rfl⟩
theorem iL_law_40 : am_at 131 40 (.iconst 2) 1 41 := ⟨by decide +kernel, rfl⟩
theorem iL_law_41 : am_at 131 41 (.istore 4) 2 43 := ⟨by decide +kernel, rfl⟩
theorem iL_law_43 : am_at 131 43 (.iload 4) 2 45 := ⟨by decide +kernel, rfl⟩
theorem iL_law_45 : am_at 131 45 (.aload_n 0) 1 46 := ⟨by decide +kernel, rfl⟩
theorem iL_law_46 : am_at 131 46 (.arraylength) 1 47 := ⟨by decide +kernel, rfl⟩
theorem iL_law_47 : am_at 131 47 (.bipush 8) 2 49 := ⟨by decide +kernel, rfl⟩
theorem iL_law_49 : am_at 131 49 (.isub) 1 50 := ⟨by decide +kernel, rfl⟩
theorem iL_law_50 : am_jp 131 50 (.if_icmp .gt 1577) 1577 1627 53 := ⟨by decide +kernel, by decide, rfl⟩
theorem iL_law_53 : am_at 131 53 (.aload_n 0) 1 54 := ⟨by decide +kernel, rfl⟩
theorem iL_law_54 : am_at 131 54 (.iload 4) 2 56 := ⟨by decide +kernel, rfl⟩
theorem iL_law_56 : am_at 131 56 (.iaload) 1 57 := ⟨by decide +kernel, rfl⟩
theorem iL_law_57 : am_at 131 57 (.bipush 31) 2 59 := ⟨by decide +kernel, rfl⟩
theorem iL_law_59 : am_at 131 59 (.iand) 1 60 := ⟨by decide +kernel, rfl⟩
theorem iL_law_60 : decode (am_b 131) 60 = .ok (.tableswitch 1561 0 19 #[96, 164, 232, 335, 403, 471, 527, 618, 674, 730, 743, 895, 962, 1041, 1109, 1177, 1245, 1325, 1405, 1505], 96) := by decide +kernel
theorem iL_law_156 : am_at 131 156 (.aload_n 1) 1 157 := ⟨by decide +kernel, rfl⟩
theorem iL_law_157 : am_at 131 157 (.aload_n 0) 1 158 := ⟨by decide +kernel, rfl⟩
theorem iL_law_158 : am_at 131 158 (.iload 4) 2 160 := ⟨by decide +kernel, rfl⟩
theorem iL_law_160 : am_at 131 160 (.iconst 1) 1 161 := ⟨by decide +kernel, rfl⟩
theorem iL_law_161 : am_at 131 161 (.iadd) 1 162 := ⟨by decide +kernel, rfl⟩
theorem iL_law_162 : am_at 131 162 (.iaload) 1 163 := ⟨by decide +kernel, rfl⟩
theorem iL_law_163 : am_at 131 163 (.aload_n 0) 1 164 := ⟨by decide +kernel, rfl⟩
theorem iL_law_164 : am_at 131 164 (.iload 4) 2 166 := ⟨by decide +kernel, rfl⟩
theorem iL_law_166 : am_at 131 166 (.iconst 2) 1 167 := ⟨by decide +kernel, rfl⟩
theorem iL_law_167 : am_at 131 167 (.iadd) 1 168 := ⟨by decide +kernel, rfl⟩
theorem iL_law_168 : am_at 131 168 (.iaload) 1 169 := ⟨by decide +kernel, rfl⟩
theorem iL_law_169 : am_at 131 169 (.aload_n 3) 1 170 := ⟨by decide +kernel, rfl⟩
theorem iL_law_170 : am_at 131 170 (.invokestatic 93) 3 173 := ⟨by decide +kernel, rfl⟩
theorem cL_law_93 : am_sS 131 93 112 := ⟨wd_183, wd_184, wd_0⟩
theorem iL_law_173 : am_at 131 173 (.istore 5) 2 175 := ⟨by decide +kernel, rfl⟩
theorem iL_law_175 : am_at 131 175 (.aload_n 2) 1 176 := ⟨by decide +kernel, rfl⟩
theorem iL_law_176 : am_at 131 176 (.aload_n 0) 1 177 := ⟨by decide +kernel, rfl⟩
theorem iL_law_177 : am_at 131 177 (.iload 4) 2 179 := ⟨by decide +kernel, rfl⟩
theorem iL_law_179 : am_at 131 179 (.iconst 1) 1 180 := ⟨by decide +kernel, rfl⟩
theorem iL_law_180 : am_at 131 180 (.iadd) 1 181 := ⟨by decide +kernel, rfl⟩
theorem iL_law_181 : am_at 131 181 (.iaload) 1 182 := ⟨by decide +kernel, rfl⟩
theorem iL_law_182 : am_at 131 182 (.aload_n 0) 1 183 := ⟨by decide +kernel, rfl⟩
theorem iL_law_183 : am_at 131 183 (.iload 4) 2 185 := ⟨by decide +kernel, rfl⟩
theorem iL_law_185 : am_at 131 185 (.iconst 2) 1 186 := ⟨by decide +kernel, rfl⟩
theorem iL_law_186 : am_at 131 186 (.iadd) 1 187 := ⟨by decide +kernel, rfl⟩
theorem iL_law_187 : am_at 131 187 (.iaload) 1 188 := ⟨by decide +kernel, rfl⟩
theorem iL_law_188 : am_at 131 188 (.invokevirtual 96) 3 191 := ⟨by decide +kernel, rfl⟩
theorem cL_law_96 : am_sV 131 96 77 7 := ⟨wd_789, wd_790, wd_791, rfl, by decide⟩
theorem iL_law_191 : am_at 131 191 (.istore 6) 2 193 := ⟨by decide +kernel, rfl⟩
theorem iL_law_193 : am_at 131 193 (.aload_n 2) 1 194 := ⟨by decide +kernel, rfl⟩
theorem iL_law_194 : am_at 131 194 (.invokevirtual 97) 3 197 := ⟨by decide +kernel, rfl⟩
theorem cL_law_97 : am_sV 131 97 68 7 := ⟨wd_785, wd_786, wd_787, rfl, by decide⟩
theorem iL_law_197 : am_at 131 197 (.iload 5) 2 199 := ⟨by decide +kernel, rfl⟩
theorem iL_law_199 : am_jp 131 199 (.if_icmp .eq 5) 5 204 202 := ⟨by decide +kernel, by decide, rfl⟩
theorem iL_law_202 : am_at 131 202 (.iconst 0) 1 203 := ⟨by decide +kernel, rfl⟩
theorem iL_law_203 : am_at 131 203 (.ireturn) 1 204 := ⟨by decide +kernel, rfl⟩
theorem iL_law_204 : am_at 131 204 (.iload 5) 2 206 := ⟨by decide +kernel, rfl⟩
theorem iL_law_206 : am_jp 131 206 (.ifCond .ne 15) 15 221 209 := ⟨by decide +kernel, by decide, rfl⟩
theorem iL_law_209 : am_at 131 209 (.aload_n 3) 1 210 := ⟨by decide +kernel, rfl⟩
theorem iL_law_210 : am_at 131 210 (.iconst 0) 1 211 := ⟨by decide +kernel, rfl⟩
theorem iL_law_211 : am_at 131 211 (.laload) 1 212 := ⟨by decide +kernel, rfl⟩
theorem iL_law_212 : am_at 131 212 (.iload 6) 2 214 := ⟨by decide +kernel, rfl⟩
theorem iL_law_214 : am_at 131 214 (.i2l) 1 215 := ⟨by decide +kernel, rfl⟩
theorem iL_law_215 : am_at 131 215 (.lcmp) 1 216 := ⟨by decide +kernel, rfl⟩
theorem iL_law_216 : am_jp 131 216 (.ifCond .eq 5) 5 221 219 := ⟨by decide +kernel, by decide, rfl⟩
theorem iL_law_219 : am_at 131 219 (.iconst 0) 1 220 := ⟨by decide +kernel, rfl⟩
theorem iL_law_220 : am_at 131 220 (.ireturn) 1 221 := ⟨by decide +kernel, rfl⟩
theorem iL_law_221 : am_jp 131 221 (.goto 1400) 1400 1621 224 := ⟨by decide +kernel, by decide, rfl⟩
theorem iL_law_224 : am_at 131 224 (.aload_n 1) 1 225 := ⟨by decide +kernel, rfl⟩
theorem iL_law_225 : am_at 131 225 (.aload_n 0) 1 226 := ⟨by decide +kernel, rfl⟩
theorem iL_law_226 : am_at 131 226 (.iload 4) 2 228 := ⟨by decide +kernel, rfl⟩
theorem iL_law_228 : am_at 131 228 (.iconst 1) 1 229 := ⟨by decide +kernel, rfl⟩
theorem iL_law_229 : am_at 131 229 (.iadd) 1 230 := ⟨by decide +kernel, rfl⟩
theorem iL_law_230 : am_at 131 230 (.iaload) 1 231 := ⟨by decide +kernel, rfl⟩
theorem iL_law_231 : am_at 131 231 (.aload_n 0) 1 232 := ⟨by decide +kernel, rfl⟩
theorem iL_law_232 : am_at 131 232 (.iload 4) 2 234 := ⟨by decide +kernel, rfl⟩
theorem iL_law_234 : am_at 131 234 (.iconst 2) 1 235 := ⟨by decide +kernel, rfl⟩
theorem iL_law_235 : am_at 131 235 (.iadd) 1 236 := ⟨by decide +kernel, rfl⟩
theorem iL_law_236 : am_at 131 236 (.iaload) 1 237 := ⟨by decide +kernel, rfl⟩
theorem iL_law_237 : am_at 131 237 (.aload_n 3) 1 238 := ⟨by decide +kernel, rfl⟩
theorem iL_law_238 : am_at 131 238 (.invokestatic 101) 3 241 := ⟨by decide +kernel, rfl⟩
theorem cL_law_101 : am_sS 131 101 113 := ⟨wd_336, wd_337, wd_0⟩
theorem iL_law_241 : am_at 131 241 (.istore 5) 2 243 := ⟨by decide +kernel, rfl⟩
theorem iL_law_243 : am_at 131 243 (.aload_n 2) 1 244 := ⟨by decide +kernel, rfl⟩
theorem iL_law_244 : am_at 131 244 (.aload_n 0) 1 245 := ⟨by decide +kernel, rfl⟩
theorem iL_law_245 : am_at 131 245 (.iload 4) 2 247 := ⟨by decide +kernel, rfl⟩
theorem iL_law_247 : am_at 131 247 (.iconst 1) 1 248 := ⟨by decide +kernel, rfl⟩
theorem iL_law_248 : am_at 131 248 (.iadd) 1 249 := ⟨by decide +kernel, rfl⟩
theorem iL_law_249 : am_at 131 249 (.iaload) 1 250 := ⟨by decide +kernel, rfl⟩
theorem iL_law_250 : am_at 131 250 (.aload_n 0) 1 251 := ⟨by decide +kernel, rfl⟩
theorem iL_law_251 : am_at 131 251 (.iload 4) 2 253 := ⟨by decide +kernel, rfl⟩
theorem iL_law_253 : am_at 131 253 (.iconst 2) 1 254 := ⟨by decide +kernel, rfl⟩
theorem iL_law_254 : am_at 131 254 (.iadd) 1 255 := ⟨by decide +kernel, rfl⟩
theorem iL_law_255 : am_at 131 255 (.iaload) 1 256 := ⟨by decide +kernel, rfl⟩
theorem iL_law_256 : am_at 131 256 (.invokevirtual 103) 3 259 := ⟨by decide +kernel, rfl⟩
theorem cL_law_103 : am_sV 131 103 78 7 := ⟨wd_838, wd_839, wd_840, rfl, by decide⟩
theorem iL_law_259 : am_at 131 259 (.istore 6) 2 261 := ⟨by decide +kernel, rfl⟩
theorem iL_law_261 : am_at 131 261 (.aload_n 2) 1 262 := ⟨by decide +kernel, rfl⟩
theorem iL_law_262 : am_at 131 262 (.invokevirtual 97) 3 265 := ⟨by decide +kernel, rfl⟩
theorem iL_law_265 : am_at 131 265 (.iload 5) 2 267 := ⟨by decide +kernel, rfl⟩
theorem iL_law_267 : am_jp 131 267 (.if_icmp .eq 5) 5 272 270 := ⟨by decide +kernel, by decide, rfl⟩
theorem iL_law_270 : am_at 131 270 (.iconst 0) 1 271 := ⟨by decide +kernel, rfl⟩
theorem iL_law_271 : am_at 131 271 (.ireturn) 1 272 := ⟨by decide +kernel, rfl⟩
theorem iL_law_272 : am_at 131 272 (.iload 5) 2 274 := ⟨by decide +kernel, rfl⟩
theorem iL_law_274 : am_jp 131 274 (.ifCond .ne 15) 15 289 277 := ⟨by decide +kernel, by decide, rfl⟩
theorem iL_law_277 : am_at 131 277 (.aload_n 3) 1 278 := ⟨by decide +kernel, rfl⟩
theorem iL_law_278 : am_at 131 278 (.iconst 0) 1 279 := ⟨by decide +kernel, rfl⟩
theorem iL_law_279 : am_at 131 279 (.laload) 1 280 := ⟨by decide +kernel, rfl⟩
theorem iL_law_280 : am_at 131 280 (.iload 6) 2 282 := ⟨by decide +kernel, rfl⟩
theorem iL_law_282 : am_at 131 282 (.i2l) 1 283 := ⟨by decide +kernel, rfl⟩
theorem iL_law_283 : am_at 131 283 (.lcmp) 1 284 := ⟨by decide +kernel, rfl⟩
theorem iL_law_284 : am_jp 131 284 (.ifCond .eq 5) 5 289 287 := ⟨by decide +kernel, by decide, rfl⟩
theorem iL_law_287 : am_at 131 287 (.iconst 0) 1 288 := ⟨by decide +kernel, rfl⟩
theorem iL_law_288 : am_at 131 288 (.ireturn) 1 289 := ⟨by decide +kernel, rfl⟩
theorem iL_law_289 : am_jp 131 289 (.goto 1332) 1332 1621 292 := ⟨by decide +kernel, by decide, rfl⟩
theorem iL_law_292 : am_at 131 292 (.aload_n 1) 1 293 := ⟨by decide +kernel, rfl⟩
theorem iL_law_293 : am_at 131 293 (.aload_n 0) 1 294 := ⟨by decide +kernel, rfl⟩
theorem iL_law_294 : am_at 131 294 (.iload 4) 2 296 := ⟨by decide +kernel, rfl⟩
theorem iL_law_296 : am_at 131 296 (.iconst 1) 1 297 := ⟨by decide +kernel, rfl⟩
theorem iL_law_297 : am_at 131 297 (.iadd) 1 298 := ⟨by decide +kernel, rfl⟩
theorem iL_law_298 : am_at 131 298 (.iaload) 1 299 := ⟨by decide +kernel, rfl⟩
theorem iL_law_299 : am_at 131 299 (.aload_n 0) 1 300 := ⟨by decide +kernel, rfl⟩
theorem iL_law_300 : am_at 131 300 (.iload 4) 2 302 := ⟨by decide +kernel, rfl⟩
theorem iL_law_302 : am_at 131 302 (.iconst 2) 1 303 := ⟨by decide +kernel, rfl⟩
theorem iL_law_303 : am_at 131 303 (.iadd) 1 304 := ⟨by decide +kernel, rfl⟩
theorem iL_law_304 : am_at 131 304 (.iaload) 1 305 := ⟨by decide +kernel, rfl⟩
theorem iL_law_305 : am_at 131 305 (.aload_n 0) 1 306 := ⟨by decide +kernel, rfl⟩
theorem iL_law_306 : am_at 131 306 (.iload 4) 2 308 := ⟨by decide +kernel, rfl⟩
theorem iL_law_308 : am_at 131 308 (.iconst 3) 1 309 := ⟨by decide +kernel, rfl⟩
theorem iL_law_309 : am_at 131 309 (.iadd) 1 310 := ⟨by decide +kernel, rfl⟩
theorem iL_law_310 : am_at 131 310 (.iaload) 1 311 := ⟨by decide +kernel, rfl⟩
theorem iL_law_311 : am_at 131 311 (.aload_n 0) 1 312 := ⟨by decide +kernel, rfl⟩
theorem iL_law_312 : am_at 131 312 (.iload 4) 2 314 := ⟨by decide +kernel, rfl⟩
theorem iL_law_314 : am_at 131 314 (.iconst 4) 1 315 := ⟨by decide +kernel, rfl⟩
theorem iL_law_315 : am_at 131 315 (.iadd) 1 316 := ⟨by decide +kernel, rfl⟩
theorem iL_law_316 : am_at 131 316 (.iaload) 1 317 := ⟨by decide +kernel, rfl⟩
theorem iL_law_317 : am_at 131 317 (.aload_n 0) 1 318 := ⟨by decide +kernel, rfl⟩
theorem iL_law_318 : am_at 131 318 (.iload 4) 2 320 := ⟨by decide +kernel, rfl⟩
theorem iL_law_320 : am_at 131 320 (.iconst 5) 1 321 := ⟨by decide +kernel, rfl⟩
theorem iL_law_321 : am_at 131 321 (.iadd) 1 322 := ⟨by decide +kernel, rfl⟩
theorem iL_law_322 : am_at 131 322 (.iaload) 1 323 := ⟨by decide +kernel, rfl⟩
theorem iL_law_323 : am_at 131 323 (.aload_n 3) 1 324 := ⟨by decide +kernel, rfl⟩
theorem iL_law_324 : am_at 131 324 (.invokestatic 104) 3 327 := ⟨by decide +kernel, rfl⟩
theorem cL_law_104 : am_sS 131 104 114 := ⟨wd_343, wd_344, wd_0⟩
theorem iL_law_327 : am_at 131 327 (.istore 5) 2 329 := ⟨by decide +kernel, rfl⟩
theorem iL_law_329 : am_at 131 329 (.aload_n 2) 1 330 := ⟨by decide +kernel, rfl⟩
theorem iL_law_330 : am_at 131 330 (.aload_n 0) 1 331 := ⟨by decide +kernel, rfl⟩
theorem iL_law_331 : am_at 131 331 (.iload 4) 2 333 := ⟨by decide +kernel, rfl⟩
theorem iL_law_333 : am_at 131 333 (.iconst 1) 1 334 := ⟨by decide +kernel, rfl⟩
theorem iL_law_334 : am_at 131 334 (.iadd) 1 335 := ⟨by decide +kernel, rfl⟩
theorem iL_law_335 : am_at 131 335 (.iaload) 1 336 := ⟨by decide +kernel, rfl⟩
theorem iL_law_336 : am_at 131 336 (.aload_n 0) 1 337 := ⟨by decide +kernel, rfl⟩
theorem iL_law_337 : am_at 131 337 (.iload 4) 2 339 := ⟨by decide +kernel, rfl⟩
theorem iL_law_339 : am_at 131 339 (.iconst 2) 1 340 := ⟨by decide +kernel, rfl⟩
theorem iL_law_340 : am_at 131 340 (.iadd) 1 341 := ⟨by decide +kernel, rfl⟩
theorem iL_law_341 : am_at 131 341 (.iaload) 1 342 := ⟨by decide +kernel, rfl⟩
theorem iL_law_342 : am_at 131 342 (.aload_n 0) 1 343 := ⟨by decide +kernel, rfl⟩
theorem iL_law_343 : am_at 131 343 (.iload 4) 2 345 := ⟨by decide +kernel, rfl⟩
theorem iL_law_345 : am_at 131 345 (.iconst 3) 1 346 := ⟨by decide +kernel, rfl⟩
theorem iL_law_346 : am_at 131 346 (.iadd) 1 347 := ⟨by decide +kernel, rfl⟩
theorem iL_law_347 : am_at 131 347 (.iaload) 1 348 := ⟨by decide +kernel, rfl⟩
theorem iL_law_348 : am_at 131 348 (.aload_n 0) 1 349 := ⟨by decide +kernel, rfl⟩
theorem iL_law_349 : am_at 131 349 (.iload 4) 2 351 := ⟨by decide +kernel, rfl⟩
theorem iL_law_351 : am_at 131 351 (.iconst 4) 1 352 := ⟨by decide +kernel, rfl⟩
theorem iL_law_352 : am_at 131 352 (.iadd) 1 353 := ⟨by decide +kernel, rfl⟩
theorem iL_law_353 : am_at 131 353 (.iaload) 1 354 := ⟨by decide +kernel, rfl⟩
theorem iL_law_354 : am_at 131 354 (.aload_n 0) 1 355 := ⟨by decide +kernel, rfl⟩
theorem iL_law_355 : am_at 131 355 (.iload 4) 2 357 := ⟨by decide +kernel, rfl⟩
theorem iL_law_357 : am_at 131 357 (.iconst 5) 1 358 := ⟨by decide +kernel, rfl⟩
theorem iL_law_358 : am_at 131 358 (.iadd) 1 359 := ⟨by decide +kernel, rfl⟩
theorem iL_law_359 : am_at 131 359 (.iaload) 1 360 := ⟨by decide +kernel, rfl⟩
theorem iL_law_360 : am_at 131 360 (.invokevirtual 107) 3 363 := ⟨by decide +kernel, rfl⟩
theorem cL_law_107 : am_sV 131 107 79 7 := ⟨wd_846, wd_847, wd_848, rfl, by decide⟩
theorem iL_law_363 : am_at 131 363 (.lstore 6) 2 365 := ⟨by decide +kernel, rfl⟩
theorem iL_law_365 : am_at 131 365 (.aload_n 2) 1 366 := ⟨by decide +kernel, rfl⟩
theorem iL_law_366 : am_at 131 366 (.invokevirtual 97) 3 369 := ⟨by decide +kernel, rfl⟩
theorem iL_law_369 : am_at 131 369 (.iload 5) 2 371 := ⟨by decide +kernel, rfl⟩
theorem iL_law_371 : am_jp 131 371 (.if_icmp .eq 5) 5 376 374 := ⟨by decide +kernel, by decide, rfl⟩
theorem iL_law_374 : am_at 131 374 (.iconst 0) 1 375 := ⟨by decide +kernel, rfl⟩
theorem iL_law_375 : am_at 131 375 (.ireturn) 1 376 := ⟨by decide +kernel, rfl⟩
theorem iL_law_376 : am_at 131 376 (.iload 5) 2 378 := ⟨by decide +kernel, rfl⟩
theorem iL_law_378 : am_jp 131 378 (.ifCond .ne 14) 14 392 381 := ⟨by decide +kernel, by decide, rfl⟩
theorem iL_law_381 : am_at 131 381 (.aload_n 3) 1 382 := ⟨by decide +kernel, rfl⟩
theorem iL_law_382 : am_at 131 382 (.iconst 0) 1 383 := ⟨by decide +kernel, rfl⟩
theorem iL_law_383 : am_at 131 383 (.laload) 1 384 := ⟨by decide +kernel, rfl⟩
theorem iL_law_384 : am_at 131 384 (.lload 6) 2 386 := ⟨by decide +kernel, rfl⟩
theorem iL_law_386 : am_at 131 386 (.lcmp) 1 387 := ⟨by decide +kernel, rfl⟩
theorem iL_law_387 : am_jp 131 387 (.ifCond .eq 5) 5 392 390 := ⟨by decide +kernel, by decide, rfl⟩
theorem iL_law_390 : am_at 131 390 (.iconst 0) 1 391 := ⟨by decide +kernel, rfl⟩
theorem iL_law_391 : am_at 131 391 (.ireturn) 1 392 := ⟨by decide +kernel, rfl⟩
theorem iL_law_392 : am_jp 131 392 (.goto 1229) 1229 1621 395 := ⟨by decide +kernel, by decide, rfl⟩
theorem iL_law_395 : am_at 131 395 (.aload_n 1) 1 396 := ⟨by decide +kernel, rfl⟩
theorem iL_law_396 : am_at 131 396 (.aload_n 0) 1 397 := ⟨by decide +kernel, rfl⟩
theorem iL_law_397 : am_at 131 397 (.iload 4) 2 399 := ⟨by decide +kernel, rfl⟩
theorem iL_law_399 : am_at 131 399 (.iconst 1) 1 400 := ⟨by decide +kernel, rfl⟩
theorem iL_law_400 : am_at 131 400 (.iadd) 1 401 := ⟨by decide +kernel, rfl⟩
theorem iL_law_401 : am_at 131 401 (.iaload) 1 402 := ⟨by decide +kernel, rfl⟩
theorem iL_law_402 : am_at 131 402 (.aload_n 0) 1 403 := ⟨by decide +kernel, rfl⟩
theorem iL_law_403 : am_at 131 403 (.iload 4) 2 405 := ⟨by decide +kernel, rfl⟩
theorem iL_law_405 : am_at 131 405 (.iconst 2) 1 406 := ⟨by decide +kernel, rfl⟩
theorem iL_law_406 : am_at 131 406 (.iadd) 1 407 := ⟨by decide +kernel, rfl⟩
theorem iL_law_407 : am_at 131 407 (.iaload) 1 408 := ⟨by decide +kernel, rfl⟩
theorem iL_law_408 : am_at 131 408 (.aload_n 3) 1 409 := ⟨by decide +kernel, rfl⟩
theorem iL_law_409 : am_at 131 409 (.invokestatic 108) 3 412 := ⟨by decide +kernel, rfl⟩
theorem cL_law_108 : am_sS 131 108 115 := ⟨wd_416, wd_417, wd_0⟩
theorem iL_law_412 : am_at 131 412 (.istore 5) 2 414 := ⟨by decide +kernel, rfl⟩
theorem iL_law_414 : am_at 131 414 (.aload_n 2) 1 415 := ⟨by decide +kernel, rfl⟩
theorem iL_law_415 : am_at 131 415 (.aload_n 0) 1 416 := ⟨by decide +kernel, rfl⟩
theorem iL_law_416 : am_at 131 416 (.iload 4) 2 418 := ⟨by decide +kernel, rfl⟩
theorem iL_law_418 : am_at 131 418 (.iconst 1) 1 419 := ⟨by decide +kernel, rfl⟩
theorem iL_law_419 : am_at 131 419 (.iadd) 1 420 := ⟨by decide +kernel, rfl⟩
theorem iL_law_420 : am_at 131 420 (.iaload) 1 421 := ⟨by decide +kernel, rfl⟩
theorem iL_law_421 : am_at 131 421 (.aload_n 0) 1 422 := ⟨by decide +kernel, rfl⟩
theorem iL_law_422 : am_at 131 422 (.iload 4) 2 424 := ⟨by decide +kernel, rfl⟩
theorem iL_law_424 : am_at 131 424 (.iconst 2) 1 425 := ⟨by decide +kernel, rfl⟩
theorem iL_law_425 : am_at 131 425 (.iadd) 1 426 := ⟨by decide +kernel, rfl⟩
theorem iL_law_426 : am_at 131 426 (.iaload) 1 427 := ⟨by decide +kernel, rfl⟩
theorem iL_law_427 : am_at 131 427 (.invokevirtual 110) 3 430 := ⟨by decide +kernel, rfl⟩
theorem cL_law_110 : am_sV 131 110 83 7 := ⟨wd_854, wd_855, wd_856, rfl, by decide⟩
theorem iL_law_430 : am_at 131 430 (.istore 6) 2 432 := ⟨by decide +kernel, rfl⟩
theorem iL_law_432 : am_at 131 432 (.aload_n 2) 1 433 := ⟨by decide +kernel, rfl⟩
theorem iL_law_433 : am_at 131 433 (.invokevirtual 97) 3 436 := ⟨by decide +kernel, rfl⟩
theorem iL_law_436 : am_at 131 436 (.iload 5) 2 438 := ⟨by decide +kernel, rfl⟩
theorem iL_law_438 : am_jp 131 438 (.if_icmp .eq 5) 5 443 441 := ⟨by decide +kernel, by decide, rfl⟩
theorem iL_law_441 : am_at 131 441 (.iconst 0) 1 442 := ⟨by decide +kernel, rfl⟩
theorem iL_law_442 : am_at 131 442 (.ireturn) 1 443 := ⟨by decide +kernel, rfl⟩
theorem iL_law_443 : am_at 131 443 (.iload 5) 2 445 := ⟨by decide +kernel, rfl⟩
theorem iL_law_445 : am_jp 131 445 (.ifCond .ne 15) 15 460 448 := ⟨by decide +kernel, by decide, rfl⟩
theorem iL_law_448 : am_at 131 448 (.aload_n 3) 1 449 := ⟨by decide +kernel, rfl⟩
theorem iL_law_449 : am_at 131 449 (.iconst 0) 1 450 := ⟨by decide +kernel, rfl⟩
theorem iL_law_450 : am_at 131 450 (.laload) 1 451 := ⟨by decide +kernel, rfl⟩
theorem iL_law_451 : am_at 131 451 (.iload 6) 2 453 := ⟨by decide +kernel, rfl⟩
theorem iL_law_453 : am_at 131 453 (.i2l) 1 454 := ⟨by decide +kernel, rfl⟩
theorem iL_law_454 : am_at 131 454 (.lcmp) 1 455 := ⟨by decide +kernel, rfl⟩
theorem iL_law_455 : am_jp 131 455 (.ifCond .eq 5) 5 460 458 := ⟨by decide +kernel, by decide, rfl⟩
theorem iL_law_458 : am_at 131 458 (.iconst 0) 1 459 := ⟨by decide +kernel, rfl⟩
theorem iL_law_459 : am_at 131 459 (.ireturn) 1 460 := ⟨by decide +kernel, rfl⟩
theorem iL_law_460 : am_jp 131 460 (.goto 1161) 1161 1621 463 := ⟨by decide +kernel, by decide, rfl⟩
theorem iL_law_463 : am_at 131 463 (.aload_n 1) 1 464 := ⟨by decide +kernel, rfl⟩
theorem iL_law_464 : am_at 131 464 (.aload_n 0) 1 465 := ⟨by decide +kernel, rfl⟩
theorem iL_law_465 : am_at 131 465 (.iload 4) 2 467 := ⟨by decide +kernel, rfl⟩
theorem iL_law_467 : am_at 131 467 (.iconst 1) 1 468 := ⟨by decide +kernel, rfl⟩
theorem iL_law_468 : am_at 131 468 (.iadd) 1 469 := ⟨by decide +kernel, rfl⟩
theorem iL_law_469 : am_at 131 469 (.iaload) 1 470 := ⟨by decide +kernel, rfl⟩
theorem iL_law_470 : am_at 131 470 (.aload_n 0) 1 471 := ⟨by decide +kernel, rfl⟩
theorem iL_law_471 : am_at 131 471 (.iload 4) 2 473 := ⟨by decide +kernel, rfl⟩
theorem iL_law_473 : am_at 131 473 (.iconst 2) 1 474 := ⟨by decide +kernel, rfl⟩
theorem iL_law_474 : am_at 131 474 (.iadd) 1 475 := ⟨by decide +kernel, rfl⟩
theorem iL_law_475 : am_at 131 475 (.iaload) 1 476 := ⟨by decide +kernel, rfl⟩
theorem iL_law_476 : am_at 131 476 (.aload_n 3) 1 477 := ⟨by decide +kernel, rfl⟩
theorem iL_law_477 : am_at 131 477 (.invokestatic 111) 3 480 := ⟨by decide +kernel, rfl⟩
theorem cL_law_111 : am_sS 131 111 116 := ⟨wd_456, wd_457, wd_0⟩
theorem iL_law_480 : am_at 131 480 (.istore 5) 2 482 := ⟨by decide +kernel, rfl⟩
theorem iL_law_482 : am_at 131 482 (.aload_n 2) 1 483 := ⟨by decide +kernel, rfl⟩
theorem iL_law_483 : am_at 131 483 (.aload_n 0) 1 484 := ⟨by decide +kernel, rfl⟩
theorem iL_law_484 : am_at 131 484 (.iload 4) 2 486 := ⟨by decide +kernel, rfl⟩
theorem iL_law_486 : am_at 131 486 (.iconst 1) 1 487 := ⟨by decide +kernel, rfl⟩
theorem iL_law_487 : am_at 131 487 (.iadd) 1 488 := ⟨by decide +kernel, rfl⟩
theorem iL_law_488 : am_at 131 488 (.iaload) 1 489 := ⟨by decide +kernel, rfl⟩
theorem iL_law_489 : am_at 131 489 (.aload_n 0) 1 490 := ⟨by decide +kernel, rfl⟩
theorem iL_law_490 : am_at 131 490 (.iload 4) 2 492 := ⟨by decide +kernel, rfl⟩
theorem iL_law_492 : am_at 131 492 (.iconst 2) 1 493 := ⟨by decide +kernel, rfl⟩
theorem iL_law_493 : am_at 131 493 (.iadd) 1 494 := ⟨by decide +kernel, rfl⟩
theorem iL_law_494 : am_at 131 494 (.iaload) 1 495 := ⟨by decide +kernel, rfl⟩
theorem iL_law_495 : am_at 131 495 (.invokevirtual 113) 3 498 := ⟨by decide +kernel, rfl⟩
theorem cL_law_113 : am_sV 131 113 84 7 := ⟨wd_874, wd_875, wd_876, rfl, by decide⟩
theorem iL_law_498 : am_at 131 498 (.istore 6) 2 500 := ⟨by decide +kernel, rfl⟩
theorem iL_law_500 : am_at 131 500 (.aload_n 2) 1 501 := ⟨by decide +kernel, rfl⟩
theorem iL_law_501 : am_at 131 501 (.invokevirtual 97) 3 504 := ⟨by decide +kernel, rfl⟩
theorem iL_law_504 : am_at 131 504 (.iload 5) 2 506 := ⟨by decide +kernel, rfl⟩
theorem iL_law_506 : am_jp 131 506 (.if_icmp .eq 5) 5 511 509 := ⟨by decide +kernel, by decide, rfl⟩
theorem iL_law_509 : am_at 131 509 (.iconst 0) 1 510 := ⟨by decide +kernel, rfl⟩
theorem iL_law_510 : am_at 131 510 (.ireturn) 1 511 := ⟨by decide +kernel, rfl⟩
theorem iL_law_511 : am_at 131 511 (.iload 5) 2 513 := ⟨by decide +kernel, rfl⟩
theorem iL_law_513 : am_jp 131 513 (.ifCond .ne 15) 15 528 516 := ⟨by decide +kernel, by decide, rfl⟩
theorem iL_law_516 : am_at 131 516 (.aload_n 3) 1 517 := ⟨by decide +kernel, rfl⟩
theorem iL_law_517 : am_at 131 517 (.iconst 0) 1 518 := ⟨by decide +kernel, rfl⟩
theorem iL_law_518 : am_at 131 518 (.laload) 1 519 := ⟨by decide +kernel, rfl⟩
theorem iL_law_519 : am_at 131 519 (.iload 6) 2 521 := ⟨by decide +kernel, rfl⟩
theorem iL_law_521 : am_at 131 521 (.i2l) 1 522 := ⟨by decide +kernel, rfl⟩
theorem iL_law_522 : am_at 131 522 (.lcmp) 1 523 := ⟨by decide +kernel, rfl⟩
theorem iL_law_523 : am_jp 131 523 (.ifCond .eq 5) 5 528 526 := ⟨by decide +kernel, by decide, rfl⟩
theorem iL_law_526 : am_at 131 526 (.iconst 0) 1 527 := ⟨by decide +kernel, rfl⟩
theorem iL_law_527 : am_at 131 527 (.ireturn) 1 528 := ⟨by decide +kernel, rfl⟩
theorem iL_law_528 : am_jp 131 528 (.goto 1093) 1093 1621 531 := ⟨by decide +kernel, by decide, rfl⟩
theorem iL_law_531 : am_at 131 531 (.aload_n 1) 1 532 := ⟨by decide +kernel, rfl⟩
theorem iL_law_532 : am_at 131 532 (.aload_n 0) 1 533 := ⟨by decide +kernel, rfl⟩
theorem iL_law_533 : am_at 131 533 (.iload 4) 2 535 := ⟨by decide +kernel, rfl⟩
theorem iL_law_535 : am_at 131 535 (.iconst 1) 1 536 := ⟨by decide +kernel, rfl⟩
theorem iL_law_536 : am_at 131 536 (.iadd) 1 537 := ⟨by decide +kernel, rfl⟩
theorem iL_law_537 : am_at 131 537 (.iaload) 1 538 := ⟨by decide +kernel, rfl⟩
theorem iL_law_538 : am_at 131 538 (.aload_n 3) 1 539 := ⟨by decide +kernel, rfl⟩
theorem iL_law_539 : am_at 131 539 (.invokestatic 114) 3 542 := ⟨by decide +kernel, rfl⟩
theorem cL_law_114 : am_sS 131 114 117 := ⟨wd_463, wd_464, wd_0⟩
theorem iL_law_542 : am_at 131 542 (.istore 5) 2 544 := ⟨by decide +kernel, rfl⟩
theorem iL_law_544 : am_at 131 544 (.aload_n 2) 1 545 := ⟨by decide +kernel, rfl⟩
theorem iL_law_545 : am_at 131 545 (.aload_n 0) 1 546 := ⟨by decide +kernel, rfl⟩
theorem iL_law_546 : am_at 131 546 (.iload 4) 2 548 := ⟨by decide +kernel, rfl⟩
theorem iL_law_548 : am_at 131 548 (.iconst 1) 1 549 := ⟨by decide +kernel, rfl⟩
theorem iL_law_549 : am_at 131 549 (.iadd) 1 550 := ⟨by decide +kernel, rfl⟩
theorem iL_law_550 : am_at 131 550 (.iaload) 1 551 := ⟨by decide +kernel, rfl⟩
theorem iL_law_551 : am_at 131 551 (.invokevirtual 117) 3 554 := ⟨by decide +kernel, rfl⟩
theorem cL_law_117 : am_sV 131 117 87 7 := ⟨wd_879, wd_880, wd_881, rfl, by decide⟩
theorem iL_law_554 : am_at 131 554 (.istore 6) 2 556 := ⟨by decide +kernel, rfl⟩
theorem iL_law_556 : am_at 131 556 (.aload_n 2) 1 557 := ⟨by decide +kernel, rfl⟩
theorem iL_law_557 : am_at 131 557 (.invokevirtual 97) 3 560 := ⟨by decide +kernel, rfl⟩
theorem iL_law_560 : am_at 131 560 (.iload 5) 2 562 := ⟨by decide +kernel, rfl⟩
theorem iL_law_562 : am_jp 131 562 (.if_icmp .eq 5) 5 567 565 := ⟨by decide +kernel, by decide, rfl⟩
theorem iL_law_565 : am_at 131 565 (.iconst 0) 1 566 := ⟨by decide +kernel, rfl⟩
theorem iL_law_566 : am_at 131 566 (.ireturn) 1 567 := ⟨by decide +kernel, rfl⟩
theorem iL_law_567 : am_at 131 567 (.iload 5) 2 569 := ⟨by decide +kernel, rfl⟩
theorem iL_law_569 : am_jp 131 569 (.ifCond .ne 15) 15 584 572 := ⟨by decide +kernel, by decide, rfl⟩
theorem iL_law_572 : am_at 131 572 (.aload_n 3) 1 573 := ⟨by decide +kernel, rfl⟩
theorem iL_law_573 : am_at 131 573 (.iconst 0) 1 574 := ⟨by decide +kernel, rfl⟩
theorem iL_law_574 : am_at 131 574 (.laload) 1 575 := ⟨by decide +kernel, rfl⟩
theorem iL_law_575 : am_at 131 575 (.iload 6) 2 577 := ⟨by decide +kernel, rfl⟩
theorem iL_law_577 : am_at 131 577 (.i2l) 1 578 := ⟨by decide +kernel, rfl⟩
theorem iL_law_578 : am_at 131 578 (.lcmp) 1 579 := ⟨by decide +kernel, rfl⟩
theorem iL_law_579 : am_jp 131 579 (.ifCond .eq 5) 5 584 582 := ⟨by decide +kernel, by decide, rfl⟩
theorem iL_law_582 : am_at 131 582 (.iconst 0) 1 583 := ⟨by decide +kernel, rfl⟩
theorem iL_law_583 : am_at 131 583 (.ireturn) 1 584 := ⟨by decide +kernel, rfl⟩
theorem iL_law_584 : am_jp 131 584 (.goto 1037) 1037 1621 587 := ⟨by decide +kernel, by decide, rfl⟩
theorem iL_law_587 : am_at 131 587 (.aload_n 1) 1 588 := ⟨by decide +kernel, rfl⟩
theorem iL_law_588 : am_at 131 588 (.aload_n 0) 1 589 := ⟨by decide +kernel, rfl⟩
theorem iL_law_589 : am_at 131 589 (.iload 4) 2 591 := ⟨by decide +kernel, rfl⟩
theorem iL_law_591 : am_at 131 591 (.iconst 1) 1 592 := ⟨by decide +kernel, rfl⟩
theorem iL_law_592 : am_at 131 592 (.iadd) 1 593 := ⟨by decide +kernel, rfl⟩
theorem iL_law_593 : am_at 131 593 (.iaload) 1 594 := ⟨by decide +kernel, rfl⟩
theorem iL_law_594 : am_at 131 594 (.aload_n 0) 1 595 := ⟨by decide +kernel, rfl⟩
theorem iL_law_595 : am_at 131 595 (.iload 4) 2 597 := ⟨by decide +kernel, rfl⟩
theorem iL_law_597 : am_at 131 597 (.iconst 2) 1 598 := ⟨by decide +kernel, rfl⟩
theorem iL_law_598 : am_at 131 598 (.iadd) 1 599 := ⟨by decide +kernel, rfl⟩
theorem iL_law_599 : am_at 131 599 (.iaload) 1 600 := ⟨by decide +kernel, rfl⟩
theorem iL_law_600 : am_jp 131 600 (.ifCond .eq 7) 7 607 603 := ⟨by decide +kernel, by decide, rfl⟩
theorem iL_law_603 : am_at 131 603 (.iconst 1) 1 604 := ⟨by decide +kernel, rfl⟩
theorem iL_law_604 : am_jp 131 604 (.goto 4) 4 608 607 := ⟨by decide +kernel, by decide, rfl⟩
theorem iL_law_607 : am_at 131 607 (.iconst 0) 1 608 := ⟨by decide +kernel, rfl⟩
theorem iL_law_608 : am_at 131 608 (.aload_n 3) 1 609 := ⟨by decide +kernel, rfl⟩
theorem iL_law_609 : am_at 131 609 (.invokestatic 118) 3 612 := ⟨by decide +kernel, rfl⟩
theorem cL_law_118 : am_sS 131 118 118 := ⟨wd_482, wd_483, wd_0⟩
theorem iL_law_612 : am_at 131 612 (.istore 5) 2 614 := ⟨by decide +kernel, rfl⟩
theorem iL_law_614 : am_at 131 614 (.aload_n 2) 1 615 := ⟨by decide +kernel, rfl⟩
theorem iL_law_615 : am_at 131 615 (.aload_n 0) 1 616 := ⟨by decide +kernel, rfl⟩
theorem iL_law_616 : am_at 131 616 (.iload 4) 2 618 := ⟨by decide +kernel, rfl⟩
theorem iL_law_618 : am_at 131 618 (.iconst 1) 1 619 := ⟨by decide +kernel, rfl⟩
theorem iL_law_619 : am_at 131 619 (.iadd) 1 620 := ⟨by decide +kernel, rfl⟩
theorem iL_law_620 : am_at 131 620 (.iaload) 1 621 := ⟨by decide +kernel, rfl⟩
theorem iL_law_621 : am_at 131 621 (.aload_n 0) 1 622 := ⟨by decide +kernel, rfl⟩
theorem iL_law_622 : am_at 131 622 (.iload 4) 2 624 := ⟨by decide +kernel, rfl⟩
theorem iL_law_624 : am_at 131 624 (.iconst 2) 1 625 := ⟨by decide +kernel, rfl⟩
theorem iL_law_625 : am_at 131 625 (.iadd) 1 626 := ⟨by decide +kernel, rfl⟩
theorem iL_law_626 : am_at 131 626 (.iaload) 1 627 := ⟨by decide +kernel, rfl⟩
theorem iL_law_627 : am_jp 131 627 (.ifCond .eq 7) 7 634 630 := ⟨by decide +kernel, by decide, rfl⟩
theorem iL_law_630 : am_at 131 630 (.iconst 1) 1 631 := ⟨by decide +kernel, rfl⟩
theorem iL_law_631 : am_jp 131 631 (.goto 4) 4 635 634 := ⟨by decide +kernel, by decide, rfl⟩
theorem iL_law_634 : am_at 131 634 (.iconst 0) 1 635 := ⟨by decide +kernel, rfl⟩
theorem iL_law_635 : am_at 131 635 (.invokevirtual 121) 3 638 := ⟨by decide +kernel, rfl⟩
theorem cL_law_121 : am_sV 131 121 88 7 := ⟨wd_892, wd_893, wd_894, rfl, by decide⟩
theorem iL_law_638 : am_at 131 638 (.istore 6) 2 640 := ⟨by decide +kernel, rfl⟩
theorem iL_law_640 : am_at 131 640 (.aload_n 2) 1 641 := ⟨by decide +kernel, rfl⟩
theorem iL_law_641 : am_at 131 641 (.invokevirtual 97) 3 644 := ⟨by decide +kernel, rfl⟩
theorem iL_law_644 : am_at 131 644 (.iload 5) 2 646 := ⟨by decide +kernel, rfl⟩
theorem iL_law_646 : am_jp 131 646 (.if_icmp .eq 5) 5 651 649 := ⟨by decide +kernel, by decide, rfl⟩
theorem iL_law_649 : am_at 131 649 (.iconst 0) 1 650 := ⟨by decide +kernel, rfl⟩
theorem iL_law_650 : am_at 131 650 (.ireturn) 1 651 := ⟨by decide +kernel, rfl⟩
theorem iL_law_651 : am_at 131 651 (.iload 5) 2 653 := ⟨by decide +kernel, rfl⟩
theorem iL_law_653 : am_jp 131 653 (.ifCond .ne 22) 22 675 656 := ⟨by decide +kernel, by decide, rfl⟩
theorem iL_law_656 : am_at 131 656 (.aload_n 3) 1 657 := ⟨by decide +kernel, rfl⟩
theorem iL_law_657 : am_at 131 657 (.iconst 0) 1 658 := ⟨by decide +kernel, rfl⟩
theorem iL_law_658 : am_at 131 658 (.laload) 1 659 := ⟨by decide +kernel, rfl⟩
theorem iL_law_659 : am_at 131 659 (.iload 6) 2 661 := ⟨by decide +kernel, rfl⟩
theorem iL_law_661 : am_jp 131 661 (.ifCond .eq 7) 7 668 664 := ⟨by decide +kernel, by decide, rfl⟩
theorem iL_law_664 : am_at 131 664 (.lconst 1) 1 665 := ⟨by decide +kernel, rfl⟩
theorem iL_law_665 : am_jp 131 665 (.goto 4) 4 669 668 := ⟨by decide +kernel, by decide, rfl⟩
theorem iL_law_668 : am_at 131 668 (.lconst 0) 1 669 := ⟨by decide +kernel, rfl⟩
theorem iL_law_669 : am_at 131 669 (.lcmp) 1 670 := ⟨by decide +kernel, rfl⟩
theorem iL_law_670 : am_jp 131 670 (.ifCond .eq 5) 5 675 673 := ⟨by decide +kernel, by decide, rfl⟩
theorem iL_law_673 : am_at 131 673 (.iconst 0) 1 674 := ⟨by decide +kernel, rfl⟩
theorem iL_law_674 : am_at 131 674 (.ireturn) 1 675 := ⟨by decide +kernel, rfl⟩
theorem iL_law_675 : am_jp 131 675 (.goto 946) 946 1621 678 := ⟨by decide +kernel, by decide, rfl⟩
theorem iL_law_678 : am_at 131 678 (.aload_n 1) 1 679 := ⟨by decide +kernel, rfl⟩
theorem iL_law_679 : am_at 131 679 (.aload_n 0) 1 680 := ⟨by decide +kernel, rfl⟩
theorem iL_law_680 : am_at 131 680 (.iload 4) 2 682 := ⟨by decide +kernel, rfl⟩
theorem iL_law_682 : am_at 131 682 (.iconst 1) 1 683 := ⟨by decide +kernel, rfl⟩
theorem iL_law_683 : am_at 131 683 (.iadd) 1 684 := ⟨by decide +kernel, rfl⟩
theorem iL_law_684 : am_at 131 684 (.iaload) 1 685 := ⟨by decide +kernel, rfl⟩
theorem iL_law_685 : am_at 131 685 (.aload_n 3) 1 686 := ⟨by decide +kernel, rfl⟩
theorem iL_law_686 : am_at 131 686 (.invokestatic 122) 3 689 := ⟨by decide +kernel, rfl⟩
theorem cL_law_122 : am_sS 131 122 119 := ⟨wd_489, wd_490, wd_0⟩
theorem iL_law_689 : am_at 131 689 (.istore 5) 2 691 := ⟨by decide +kernel, rfl⟩
theorem iL_law_691 : am_at 131 691 (.aload_n 2) 1 692 := ⟨by decide +kernel, rfl⟩
theorem iL_law_692 : am_at 131 692 (.aload_n 0) 1 693 := ⟨by decide +kernel, rfl⟩
theorem iL_law_693 : am_at 131 693 (.iload 4) 2 695 := ⟨by decide +kernel, rfl⟩
theorem iL_law_695 : am_at 131 695 (.iconst 1) 1 696 := ⟨by decide +kernel, rfl⟩
theorem iL_law_696 : am_at 131 696 (.iadd) 1 697 := ⟨by decide +kernel, rfl⟩
theorem iL_law_697 : am_at 131 697 (.iaload) 1 698 := ⟨by decide +kernel, rfl⟩
theorem iL_law_698 : am_at 131 698 (.invokevirtual 124) 3 701 := ⟨by decide +kernel, rfl⟩
theorem cL_law_124 : am_sV 131 124 91 7 := ⟨wd_896, wd_897, wd_898, rfl, by decide⟩
theorem iL_law_701 : am_at 131 701 (.istore 6) 2 703 := ⟨by decide +kernel, rfl⟩
theorem iL_law_703 : am_at 131 703 (.aload_n 2) 1 704 := ⟨by decide +kernel, rfl⟩
theorem iL_law_704 : am_at 131 704 (.invokevirtual 97) 3 707 := ⟨by decide +kernel, rfl⟩
theorem iL_law_707 : am_at 131 707 (.iload 5) 2 709 := ⟨by decide +kernel, rfl⟩
theorem iL_law_709 : am_jp 131 709 (.if_icmp .eq 5) 5 714 712 := ⟨by decide +kernel, by decide, rfl⟩
theorem iL_law_712 : am_at 131 712 (.iconst 0) 1 713 := ⟨by decide +kernel, rfl⟩
theorem iL_law_713 : am_at 131 713 (.ireturn) 1 714 := ⟨by decide +kernel, rfl⟩
theorem iL_law_714 : am_at 131 714 (.iload 5) 2 716 := ⟨by decide +kernel, rfl⟩
theorem iL_law_716 : am_jp 131 716 (.ifCond .ne 15) 15 731 719 := ⟨by decide +kernel, by decide, rfl⟩
theorem iL_law_719 : am_at 131 719 (.aload_n 3) 1 720 := ⟨by decide +kernel, rfl⟩
theorem iL_law_720 : am_at 131 720 (.iconst 0) 1 721 := ⟨by decide +kernel, rfl⟩
theorem iL_law_721 : am_at 131 721 (.laload) 1 722 := ⟨by decide +kernel, rfl⟩
theorem iL_law_722 : am_at 131 722 (.iload 6) 2 724 := ⟨by decide +kernel, rfl⟩
theorem iL_law_724 : am_at 131 724 (.i2l) 1 725 := ⟨by decide +kernel, rfl⟩
theorem iL_law_725 : am_at 131 725 (.lcmp) 1 726 := ⟨by decide +kernel, rfl⟩
theorem iL_law_726 : am_jp 131 726 (.ifCond .eq 5) 5 731 729 := ⟨by decide +kernel, by decide, rfl⟩
theorem iL_law_729 : am_at 131 729 (.iconst 0) 1 730 := ⟨by decide +kernel, rfl⟩
theorem iL_law_730 : am_at 131 730 (.ireturn) 1 731 := ⟨by decide +kernel, rfl⟩
theorem iL_law_731 : am_jp 131 731 (.goto 890) 890 1621 734 := ⟨by decide +kernel, by decide, rfl⟩
theorem iL_law_734 : am_at 131 734 (.aload_n 1) 1 735 := ⟨by decide +kernel, rfl⟩
theorem iL_law_735 : am_at 131 735 (.aload_n 0) 1 736 := ⟨by decide +kernel, rfl⟩
theorem iL_law_736 : am_at 131 736 (.iload 4) 2 738 := ⟨by decide +kernel, rfl⟩
theorem iL_law_738 : am_at 131 738 (.iconst 1) 1 739 := ⟨by decide +kernel, rfl⟩
theorem iL_law_739 : am_at 131 739 (.iadd) 1 740 := ⟨by decide +kernel, rfl⟩
theorem iL_law_740 : am_at 131 740 (.iaload) 1 741 := ⟨by decide +kernel, rfl⟩
theorem iL_law_741 : am_at 131 741 (.aload_n 3) 1 742 := ⟨by decide +kernel, rfl⟩
theorem iL_law_742 : am_at 131 742 (.invokestatic 125) 3 745 := ⟨by decide +kernel, rfl⟩
theorem cL_law_125 : am_sS 131 125 120 := ⟨wd_511, wd_512, wd_0⟩
theorem iL_law_745 : am_at 131 745 (.istore 5) 2 747 := ⟨by decide +kernel, rfl⟩
theorem iL_law_747 : am_at 131 747 (.aload_n 2) 1 748 := ⟨by decide +kernel, rfl⟩
theorem iL_law_748 : am_at 131 748 (.aload_n 0) 1 749 := ⟨by decide +kernel, rfl⟩
theorem iL_law_749 : am_at 131 749 (.iload 4) 2 751 := ⟨by decide +kernel, rfl⟩
theorem iL_law_751 : am_at 131 751 (.iconst 1) 1 752 := ⟨by decide +kernel, rfl⟩
theorem iL_law_752 : am_at 131 752 (.iadd) 1 753 := ⟨by decide +kernel, rfl⟩
theorem iL_law_753 : am_at 131 753 (.iaload) 1 754 := ⟨by decide +kernel, rfl⟩
theorem iL_law_754 : am_at 131 754 (.invokevirtual 127) 3 757 := ⟨by decide +kernel, rfl⟩
theorem cL_law_127 : am_sV 131 127 92 7 := ⟨wd_908, wd_909, wd_910, rfl, by decide⟩
theorem iL_law_757 : am_at 131 757 (.istore 6) 2 759 := ⟨by decide +kernel, rfl⟩
theorem iL_law_759 : am_at 131 759 (.aload_n 2) 1 760 := ⟨by decide +kernel, rfl⟩
theorem iL_law_760 : am_at 131 760 (.invokevirtual 97) 3 763 := ⟨by decide +kernel, rfl⟩
theorem iL_law_763 : am_at 131 763 (.iload 5) 2 765 := ⟨by decide +kernel, rfl⟩
theorem iL_law_765 : am_jp 131 765 (.if_icmp .eq 5) 5 770 768 := ⟨by decide +kernel, by decide, rfl⟩
theorem iL_law_768 : am_at 131 768 (.iconst 0) 1 769 := ⟨by decide +kernel, rfl⟩
theorem iL_law_769 : am_at 131 769 (.ireturn) 1 770 := ⟨by decide +kernel, rfl⟩
theorem iL_law_770 : am_at 131 770 (.iload 5) 2 772 := ⟨by decide +kernel, rfl⟩
theorem iL_law_772 : am_jp 131 772 (.ifCond .ne 15) 15 787 775 := ⟨by decide +kernel, by decide, rfl⟩
theorem iL_law_775 : am_at 131 775 (.aload_n 3) 1 776 := ⟨by decide +kernel, rfl⟩
theorem iL_law_776 : am_at 131 776 (.iconst 0) 1 777 := ⟨by decide +kernel, rfl⟩
theorem iL_law_777 : am_at 131 777 (.laload) 1 778 := ⟨by decide +kernel, rfl⟩
theorem iL_law_778 : am_at 131 778 (.iload 6) 2 780 := ⟨by decide +kernel, rfl⟩
theorem iL_law_780 : am_at 131 780 (.i2l) 1 781 := ⟨by decide +kernel, rfl⟩
theorem iL_law_781 : am_at 131 781 (.lcmp) 1 782 := ⟨by decide +kernel, rfl⟩
theorem iL_law_782 : am_jp 131 782 (.ifCond .eq 5) 5 787 785 := ⟨by decide +kernel, by decide, rfl⟩
theorem iL_law_785 : am_at 131 785 (.iconst 0) 1 786 := ⟨by decide +kernel, rfl⟩
theorem iL_law_786 : am_at 131 786 (.ireturn) 1 787 := ⟨by decide +kernel, rfl⟩
theorem iL_law_787 : am_jp 131 787 (.goto 834) 834 1621 790 := ⟨by decide +kernel, by decide, rfl⟩
theorem iL_law_790 : am_at 131 790 (.aload_n 1) 1 791 := ⟨by decide +kernel, rfl⟩
theorem iL_law_791 : am_at 131 791 (.invokevirtual 128) 3 794 := ⟨by decide +kernel, rfl⟩
theorem cL_law_128 : am_sV 131 128 33 6 := ⟨wd_165, wd_166, wd_167, rfl, by decide⟩
theorem iL_law_794 : am_at 131 794 (.aload_n 2) 1 795 := ⟨by decide +kernel, rfl⟩
theorem iL_law_795 : am_at 131 795 (.invokevirtual 131) 3 798 := ⟨by decide +kernel, rfl⟩
theorem cL_law_131 : am_sV 131 131 93 7 := ⟨wd_912, wd_913, wd_914, rfl, by decide⟩
theorem iL_law_798 : am_jp 131 798 (.if_icmp .eq 823) 823 1621 801 := ⟨by decide +kernel, by decide, rfl⟩
theorem iL_law_801 : am_at 131 801 (.iconst 0) 1 802 := ⟨by decide +kernel, rfl⟩
theorem iL_law_802 : am_at 131 802 (.ireturn) 1 803 := ⟨by decide +kernel, rfl⟩
theorem iL_law_803 : am_at 131 803 (.aload_n 1) 1 804 := ⟨by decide +kernel, rfl⟩
theorem iL_law_804 : am_at 131 804 (.aload_n 0) 1 805 := ⟨by decide +kernel, rfl⟩
theorem iL_law_805 : am_at 131 805 (.iload 4) 2 807 := ⟨by decide +kernel, rfl⟩
theorem iL_law_807 : am_at 131 807 (.iconst 1) 1 808 := ⟨by decide +kernel, rfl⟩
theorem iL_law_808 : am_at 131 808 (.iadd) 1 809 := ⟨by decide +kernel, rfl⟩
theorem iL_law_809 : am_at 131 809 (.iaload) 1 810 := ⟨by decide +kernel, rfl⟩
theorem iL_law_810 : am_at 131 810 (.aload_n 0) 1 811 := ⟨by decide +kernel, rfl⟩
theorem iL_law_811 : am_at 131 811 (.iload 4) 2 813 := ⟨by decide +kernel, rfl⟩
theorem iL_law_813 : am_at 131 813 (.iconst 2) 1 814 := ⟨by decide +kernel, rfl⟩
theorem iL_law_814 : am_at 131 814 (.iadd) 1 815 := ⟨by decide +kernel, rfl⟩
theorem iL_law_815 : am_at 131 815 (.iaload) 1 816 := ⟨by decide +kernel, rfl⟩
theorem iL_law_816 : am_at 131 816 (.i2l) 1 817 := ⟨by decide +kernel, rfl⟩
theorem iL_law_817 : am_at 131 817 (.bipush 32) 2 819 := ⟨by decide +kernel, rfl⟩
theorem iL_law_819 : am_at 131 819 (.lshl) 1 820 := ⟨by decide +kernel, rfl⟩
theorem iL_law_820 : am_at 131 820 (.aload_n 0) 1 821 := ⟨by decide +kernel, rfl⟩
theorem iL_law_821 : am_at 131 821 (.iload 4) 2 823 := ⟨by decide +kernel, rfl⟩
theorem iL_law_823 : am_at 131 823 (.iconst 3) 1 824 := ⟨by decide +kernel, rfl⟩
theorem iL_law_824 : am_at 131 824 (.iadd) 1 825 := ⟨by decide +kernel, rfl⟩
theorem iL_law_825 : am_at 131 825 (.iaload) 1 826 := ⟨by decide +kernel, rfl⟩
theorem iL_law_826 : am_at 131 826 (.i2l) 1 827 := ⟨by decide +kernel, rfl⟩
theorem iL_law_827 : am_at 131 827 (.ldc2_w 132) 3 830 := ⟨by decide +kernel, rfl⟩
theorem iL_law_830 : am_at 131 830 (.land) 1 831 := ⟨by decide +kernel, rfl⟩
theorem iL_law_831 : am_at 131 831 (.lor) 1 832 := ⟨by decide +kernel, rfl⟩
theorem iL_law_832 : am_at 131 832 (.aload_n 0) 1 833 := ⟨by decide +kernel, rfl⟩
theorem iL_law_833 : am_at 131 833 (.iload 4) 2 835 := ⟨by decide +kernel, rfl⟩
theorem iL_law_835 : am_at 131 835 (.iconst 4) 1 836 := ⟨by decide +kernel, rfl⟩
theorem iL_law_836 : am_at 131 836 (.iadd) 1 837 := ⟨by decide +kernel, rfl⟩
theorem iL_law_837 : am_at 131 837 (.iaload) 1 838 := ⟨by decide +kernel, rfl⟩
theorem iL_law_838 : am_at 131 838 (.aload_n 0) 1 839 := ⟨by decide +kernel, rfl⟩
theorem iL_law_839 : am_at 131 839 (.iload 4) 2 841 := ⟨by decide +kernel, rfl⟩
theorem iL_law_841 : am_at 131 841 (.iconst 5) 1 842 := ⟨by decide +kernel, rfl⟩
theorem iL_law_842 : am_at 131 842 (.iadd) 1 843 := ⟨by decide +kernel, rfl⟩
theorem iL_law_843 : am_at 131 843 (.iaload) 1 844 := ⟨by decide +kernel, rfl⟩
theorem iL_law_844 : am_at 131 844 (.aload_n 0) 1 845 := ⟨by decide +kernel, rfl⟩
theorem iL_law_845 : am_at 131 845 (.iload 4) 2 847 := ⟨by decide +kernel, rfl⟩
theorem iL_law_847 : am_at 131 847 (.bipush 6) 2 849 := ⟨by decide +kernel, rfl⟩
theorem iL_law_849 : am_at 131 849 (.iadd) 1 850 := ⟨by decide +kernel, rfl⟩
theorem iL_law_850 : am_at 131 850 (.iaload) 1 851 := ⟨by decide +kernel, rfl⟩
theorem iL_law_851 : am_at 131 851 (.aload_n 0) 1 852 := ⟨by decide +kernel, rfl⟩
theorem iL_law_852 : am_at 131 852 (.iload 4) 2 854 := ⟨by decide +kernel, rfl⟩
theorem iL_law_854 : am_at 131 854 (.bipush 7) 2 856 := ⟨by decide +kernel, rfl⟩
theorem iL_law_856 : am_at 131 856 (.iadd) 1 857 := ⟨by decide +kernel, rfl⟩
theorem iL_law_857 : am_at 131 857 (.iaload) 1 858 := ⟨by decide +kernel, rfl⟩
theorem iL_law_858 : am_at 131 858 (.aload_n 3) 1 859 := ⟨by decide +kernel, rfl⟩
theorem iL_law_859 : am_at 131 859 (.invokestatic 134) 3 862 := ⟨by decide +kernel, rfl⟩
theorem cL_law_134 : am_sS 131 134 121 := ⟨wd_522, wd_523, wd_0⟩
theorem iL_law_862 : am_at 131 862 (.istore 5) 2 864 := ⟨by decide +kernel, rfl⟩
theorem iL_law_864 : am_at 131 864 (.aload_n 2) 1 865 := ⟨by decide +kernel, rfl⟩
theorem iL_law_865 : am_at 131 865 (.aload_n 0) 1 866 := ⟨by decide +kernel, rfl⟩
theorem iL_law_866 : am_at 131 866 (.iload 4) 2 868 := ⟨by decide +kernel, rfl⟩
theorem iL_law_868 : am_at 131 868 (.iconst 1) 1 869 := ⟨by decide +kernel, rfl⟩
theorem iL_law_869 : am_at 131 869 (.iadd) 1 870 := ⟨by decide +kernel, rfl⟩
theorem iL_law_870 : am_at 131 870 (.iaload) 1 871 := ⟨by decide +kernel, rfl⟩
theorem iL_law_871 : am_at 131 871 (.aload_n 0) 1 872 := ⟨by decide +kernel, rfl⟩
theorem iL_law_872 : am_at 131 872 (.iload 4) 2 874 := ⟨by decide +kernel, rfl⟩
theorem iL_law_874 : am_at 131 874 (.iconst 2) 1 875 := ⟨by decide +kernel, rfl⟩
theorem iL_law_875 : am_at 131 875 (.iadd) 1 876 := ⟨by decide +kernel, rfl⟩
theorem iL_law_876 : am_at 131 876 (.iaload) 1 877 := ⟨by decide +kernel, rfl⟩
theorem iL_law_877 : am_at 131 877 (.i2l) 1 878 := ⟨by decide +kernel, rfl⟩
theorem iL_law_878 : am_at 131 878 (.bipush 32) 2 880 := ⟨by decide +kernel, rfl⟩
theorem iL_law_880 : am_at 131 880 (.lshl) 1 881 := ⟨by decide +kernel, rfl⟩
theorem iL_law_881 : am_at 131 881 (.aload_n 0) 1 882 := ⟨by decide +kernel, rfl⟩
theorem iL_law_882 : am_at 131 882 (.iload 4) 2 884 := ⟨by decide +kernel, rfl⟩
theorem iL_law_884 : am_at 131 884 (.iconst 3) 1 885 := ⟨by decide +kernel, rfl⟩
theorem iL_law_885 : am_at 131 885 (.iadd) 1 886 := ⟨by decide +kernel, rfl⟩
theorem iL_law_886 : am_at 131 886 (.iaload) 1 887 := ⟨by decide +kernel, rfl⟩
theorem iL_law_887 : am_at 131 887 (.i2l) 1 888 := ⟨by decide +kernel, rfl⟩
theorem iL_law_888 : am_at 131 888 (.ldc2_w 132) 3 891 := ⟨by decide +kernel, rfl⟩
theorem iL_law_891 : am_at 131 891 (.land) 1 892 := ⟨by decide +kernel, rfl⟩
theorem iL_law_892 : am_at 131 892 (.lor) 1 893 := ⟨by decide +kernel, rfl⟩
theorem iL_law_893 : am_at 131 893 (.aload_n 0) 1 894 := ⟨by decide +kernel, rfl⟩
theorem iL_law_894 : am_at 131 894 (.iload 4) 2 896 := ⟨by decide +kernel, rfl⟩
theorem iL_law_896 : am_at 131 896 (.iconst 4) 1 897 := ⟨by decide +kernel, rfl⟩
theorem iL_law_897 : am_at 131 897 (.iadd) 1 898 := ⟨by decide +kernel, rfl⟩
theorem iL_law_898 : am_at 131 898 (.iaload) 1 899 := ⟨by decide +kernel, rfl⟩
theorem iL_law_899 : am_at 131 899 (.aload_n 0) 1 900 := ⟨by decide +kernel, rfl⟩
theorem iL_law_900 : am_at 131 900 (.iload 4) 2 902 := ⟨by decide +kernel, rfl⟩
theorem iL_law_902 : am_at 131 902 (.iconst 5) 1 903 := ⟨by decide +kernel, rfl⟩
theorem iL_law_903 : am_at 131 903 (.iadd) 1 904 := ⟨by decide +kernel, rfl⟩
theorem iL_law_904 : am_at 131 904 (.iaload) 1 905 := ⟨by decide +kernel, rfl⟩
theorem iL_law_905 : am_at 131 905 (.aload_n 0) 1 906 := ⟨by decide +kernel, rfl⟩
theorem iL_law_906 : am_at 131 906 (.iload 4) 2 908 := ⟨by decide +kernel, rfl⟩
theorem iL_law_908 : am_at 131 908 (.bipush 6) 2 910 := ⟨by decide +kernel, rfl⟩
theorem iL_law_910 : am_at 131 910 (.iadd) 1 911 := ⟨by decide +kernel, rfl⟩
theorem iL_law_911 : am_at 131 911 (.iaload) 1 912 := ⟨by decide +kernel, rfl⟩
theorem iL_law_912 : am_at 131 912 (.aload_n 0) 1 913 := ⟨by decide +kernel, rfl⟩
theorem iL_law_913 : am_at 131 913 (.iload 4) 2 915 := ⟨by decide +kernel, rfl⟩
theorem iL_law_915 : am_at 131 915 (.bipush 7) 2 917 := ⟨by decide +kernel, rfl⟩
theorem iL_law_917 : am_at 131 917 (.iadd) 1 918 := ⟨by decide +kernel, rfl⟩
theorem iL_law_918 : am_at 131 918 (.iaload) 1 919 := ⟨by decide +kernel, rfl⟩
theorem iL_law_919 : am_at 131 919 (.invokevirtual 137) 3 922 := ⟨by decide +kernel, rfl⟩
theorem cL_law_137 : am_sV 131 137 101 7 := ⟨wd_916, wd_917, wd_918, rfl, by decide⟩
theorem iL_law_922 : am_at 131 922 (.istore 6) 2 924 := ⟨by decide +kernel, rfl⟩
theorem iL_law_924 : am_at 131 924 (.aload_n 2) 1 925 := ⟨by decide +kernel, rfl⟩
theorem iL_law_925 : am_at 131 925 (.invokevirtual 97) 3 928 := ⟨by decide +kernel, rfl⟩
theorem iL_law_928 : am_at 131 928 (.iload 5) 2 930 := ⟨by decide +kernel, rfl⟩
theorem iL_law_930 : am_jp 131 930 (.if_icmp .eq 5) 5 935 933 := ⟨by decide +kernel, by decide, rfl⟩
theorem iL_law_933 : am_at 131 933 (.iconst 0) 1 934 := ⟨by decide +kernel, rfl⟩
theorem iL_law_934 : am_at 131 934 (.ireturn) 1 935 := ⟨by decide +kernel, rfl⟩
theorem iL_law_935 : am_at 131 935 (.iload 5) 2 937 := ⟨by decide +kernel, rfl⟩
theorem iL_law_937 : am_jp 131 937 (.ifCond .ne 15) 15 952 940 := ⟨by decide +kernel, by decide, rfl⟩
theorem iL_law_940 : am_at 131 940 (.aload_n 3) 1 941 := ⟨by decide +kernel, rfl⟩
theorem iL_law_941 : am_at 131 941 (.iconst 0) 1 942 := ⟨by decide +kernel, rfl⟩
theorem iL_law_942 : am_at 131 942 (.laload) 1 943 := ⟨by decide +kernel, rfl⟩
theorem iL_law_943 : am_at 131 943 (.iload 6) 2 945 := ⟨by decide +kernel, rfl⟩
theorem iL_law_945 : am_at 131 945 (.i2l) 1 946 := ⟨by decide +kernel, rfl⟩
theorem iL_law_946 : am_at 131 946 (.lcmp) 1 947 := ⟨by decide +kernel, rfl⟩
theorem iL_law_947 : am_jp 131 947 (.ifCond .eq 5) 5 952 950 := ⟨by decide +kernel, by decide, rfl⟩
theorem iL_law_950 : am_at 131 950 (.iconst 0) 1 951 := ⟨by decide +kernel, rfl⟩
theorem iL_law_951 : am_at 131 951 (.ireturn) 1 952 := ⟨by decide +kernel, rfl⟩
theorem iL_law_952 : am_jp 131 952 (.goto 669) 669 1621 955 := ⟨by decide +kernel, by decide, rfl⟩
theorem iL_law_955 : am_at 131 955 (.aload_n 1) 1 956 := ⟨by decide +kernel, rfl⟩
theorem iL_law_956 : am_at 131 956 (.aload_n 0) 1 957 := ⟨by decide +kernel, rfl⟩
theorem iL_law_957 : am_at 131 957 (.iload 4) 2 959 := ⟨by decide +kernel, rfl⟩
theorem iL_law_959 : am_at 131 959 (.iconst 1) 1 960 := ⟨by decide +kernel, rfl⟩
theorem iL_law_960 : am_at 131 960 (.iadd) 1 961 := ⟨by decide +kernel, rfl⟩
theorem iL_law_961 : am_at 131 961 (.iaload) 1 962 := ⟨by decide +kernel, rfl⟩
theorem iL_law_962 : am_at 131 962 (.aload_n 0) 1 963 := ⟨by decide +kernel, rfl⟩
theorem iL_law_963 : am_at 131 963 (.iload 4) 2 965 := ⟨by decide +kernel, rfl⟩
theorem iL_law_965 : am_at 131 965 (.iconst 2) 1 966 := ⟨by decide +kernel, rfl⟩
theorem iL_law_966 : am_at 131 966 (.iadd) 1 967 := ⟨by decide +kernel, rfl⟩
theorem iL_law_967 : am_at 131 967 (.iaload) 1 968 := ⟨by decide +kernel, rfl⟩
theorem iL_law_968 : am_at 131 968 (.aload_n 3) 1 969 := ⟨by decide +kernel, rfl⟩
theorem iL_law_969 : am_at 131 969 (.invokestatic 138) 3 972 := ⟨by decide +kernel, rfl⟩
theorem cL_law_138 : am_sS 131 138 122 := ⟨wd_595, wd_596, wd_0⟩
theorem iL_law_972 : am_at 131 972 (.istore 5) 2 974 := ⟨by decide +kernel, rfl⟩
theorem iL_law_974 : am_at 131 974 (.aload_n 2) 1 975 := ⟨by decide +kernel, rfl⟩
theorem iL_law_975 : am_at 131 975 (.aload_n 0) 1 976 := ⟨by decide +kernel, rfl⟩
theorem iL_law_976 : am_at 131 976 (.iload 4) 2 978 := ⟨by decide +kernel, rfl⟩
theorem iL_law_978 : am_at 131 978 (.iconst 1) 1 979 := ⟨by decide +kernel, rfl⟩
theorem iL_law_979 : am_at 131 979 (.iadd) 1 980 := ⟨by decide +kernel, rfl⟩
theorem iL_law_980 : am_at 131 980 (.iaload) 1 981 := ⟨by decide +kernel, rfl⟩
theorem iL_law_981 : am_at 131 981 (.aload_n 0) 1 982 := ⟨by decide +kernel, rfl⟩
theorem iL_law_982 : am_at 131 982 (.iload 4) 2 984 := ⟨by decide +kernel, rfl⟩
theorem iL_law_984 : am_at 131 984 (.iconst 2) 1 985 := ⟨by decide +kernel, rfl⟩
theorem iL_law_985 : am_at 131 985 (.iadd) 1 986 := ⟨by decide +kernel, rfl⟩
theorem iL_law_986 : am_at 131 986 (.iaload) 1 987 := ⟨by decide +kernel, rfl⟩
theorem iL_law_987 : am_at 131 987 (.invokevirtual 140) 3 990 := ⟨by decide +kernel, rfl⟩
theorem cL_law_140 : am_sV 131 140 102 7 := ⟨wd_940, wd_941, wd_942, rfl, by decide⟩
theorem iL_law_990 : am_at 131 990 (.lstore 6) 2 992 := ⟨by decide +kernel, rfl⟩
theorem iL_law_992 : am_at 131 992 (.aload_n 2) 1 993 := ⟨by decide +kernel, rfl⟩
theorem iL_law_993 : am_at 131 993 (.invokevirtual 97) 3 996 := ⟨by decide +kernel, rfl⟩
theorem iL_law_996 : am_at 131 996 (.iload 5) 2 998 := ⟨by decide +kernel, rfl⟩
theorem iL_law_998 : am_jp 131 998 (.if_icmp .eq 5) 5 1003 1001 := ⟨by decide +kernel, by decide, rfl⟩
theorem iL_law_1001 : am_at 131 1001 (.iconst 0) 1 1002 := ⟨by decide +kernel, rfl⟩
theorem iL_law_1002 : am_at 131 1002 (.ireturn) 1 1003 := ⟨by decide +kernel, rfl⟩
theorem iL_law_1003 : am_at 131 1003 (.iload 5) 2 1005 := ⟨by decide +kernel, rfl⟩
theorem iL_law_1005 : am_jp 131 1005 (.ifCond .ne 14) 14 1019 1008 := ⟨by decide +kernel, by decide, rfl⟩
theorem iL_law_1008 : am_at 131 1008 (.aload_n 3) 1 1009 := ⟨by decide +kernel, rfl⟩
theorem iL_law_1009 : am_at 131 1009 (.iconst 0) 1 1010 := ⟨by decide +kernel, rfl⟩
theorem iL_law_1010 : am_at 131 1010 (.laload) 1 1011 := ⟨by decide +kernel, rfl⟩
theorem iL_law_1011 : am_at 131 1011 (.lload 6) 2 1013 := ⟨by decide +kernel, rfl⟩
theorem iL_law_1013 : am_at 131 1013 (.lcmp) 1 1014 := ⟨by decide +kernel, rfl⟩
theorem iL_law_1014 : am_jp 131 1014 (.ifCond .eq 5) 5 1019 1017 := ⟨by decide +kernel, by decide, rfl⟩
theorem iL_law_1017 : am_at 131 1017 (.iconst 0) 1 1018 := ⟨by decide +kernel, rfl⟩
theorem iL_law_1018 : am_at 131 1018 (.ireturn) 1 1019 := ⟨by decide +kernel, rfl⟩
theorem iL_law_1019 : am_jp 131 1019 (.goto 602) 602 1621 1022 := ⟨by decide +kernel, by decide, rfl⟩
theorem iL_law_1022 : am_at 131 1022 (.aload_n 1) 1 1023 := ⟨by decide +kernel, rfl⟩
theorem iL_law_1023 : am_at 131 1023 (.aload_n 0) 1 1024 := ⟨by decide +kernel, rfl⟩
theorem iL_law_1024 : am_at 131 1024 (.iload 4) 2 1026 := ⟨by decide +kernel, rfl⟩
theorem iL_law_1026 : am_at 131 1026 (.iconst 1) 1 1027 := ⟨by decide +kernel, rfl⟩
theorem iL_law_1027 : am_at 131 1027 (.iadd) 1 1028 := ⟨by decide +kernel, rfl⟩
theorem iL_law_1028 : am_at 131 1028 (.iaload) 1 1029 := ⟨by decide +kernel, rfl⟩
theorem iL_law_1029 : am_at 131 1029 (.aload_n 0) 1 1030 := ⟨by decide +kernel, rfl⟩
theorem iL_law_1030 : am_at 131 1030 (.iload 4) 2 1032 := ⟨by decide +kernel, rfl⟩
theorem iL_law_1032 : am_at 131 1032 (.iconst 2) 1 1033 := ⟨by decide +kernel, rfl⟩
theorem iL_law_1033 : am_at 131 1033 (.iadd) 1 1034 := ⟨by decide +kernel, rfl⟩
theorem iL_law_1034 : am_at 131 1034 (.iaload) 1 1035 := ⟨by decide +kernel, rfl⟩
theorem iL_law_1035 : am_at 131 1035 (.aload_n 0) 1 1036 := ⟨by decide +kernel, rfl⟩
theorem iL_law_1036 : am_at 131 1036 (.iload 4) 2 1038 := ⟨by decide +kernel, rfl⟩
theorem iL_law_1038 : am_at 131 1038 (.iconst 3) 1 1039 := ⟨by decide +kernel, rfl⟩
theorem iL_law_1039 : am_at 131 1039 (.iadd) 1 1040 := ⟨by decide +kernel, rfl⟩
theorem iL_law_1040 : am_at 131 1040 (.iaload) 1 1041 := ⟨by decide +kernel, rfl⟩
theorem iL_law_1041 : am_at 131 1041 (.aload_n 3) 1 1042 := ⟨by decide +kernel, rfl⟩
theorem iL_law_1042 : am_at 131 1042 (.invokestatic 141) 3 1045 := ⟨by decide +kernel, rfl⟩
theorem cL_law_141 : am_sS 131 141 123 := ⟨wd_603, wd_604, wd_0⟩
theorem iL_law_1045 : am_at 131 1045 (.istore 5) 2 1047 := ⟨by decide +kernel, rfl⟩
theorem iL_law_1047 : am_at 131 1047 (.aload_n 2) 1 1048 := ⟨by decide +kernel, rfl⟩
theorem iL_law_1048 : am_at 131 1048 (.aload_n 0) 1 1049 := ⟨by decide +kernel, rfl⟩
theorem iL_law_1049 : am_at 131 1049 (.iload 4) 2 1051 := ⟨by decide +kernel, rfl⟩
theorem iL_law_1051 : am_at 131 1051 (.iconst 1) 1 1052 := ⟨by decide +kernel, rfl⟩
theorem iL_law_1052 : am_at 131 1052 (.iadd) 1 1053 := ⟨by decide +kernel, rfl⟩
theorem iL_law_1053 : am_at 131 1053 (.iaload) 1 1054 := ⟨by decide +kernel, rfl⟩
theorem iL_law_1054 : am_at 131 1054 (.aload_n 0) 1 1055 := ⟨by decide +kernel, rfl⟩
theorem iL_law_1055 : am_at 131 1055 (.iload 4) 2 1057 := ⟨by decide +kernel, rfl⟩
theorem iL_law_1057 : am_at 131 1057 (.iconst 2) 1 1058 := ⟨by decide +kernel, rfl⟩
theorem iL_law_1058 : am_at 131 1058 (.iadd) 1 1059 := ⟨by decide +kernel, rfl⟩
theorem iL_law_1059 : am_at 131 1059 (.iaload) 1 1060 := ⟨by decide +kernel, rfl⟩
theorem iL_law_1060 : am_at 131 1060 (.aload_n 0) 1 1061 := ⟨by decide +kernel, rfl⟩
theorem iL_law_1061 : am_at 131 1061 (.iload 4) 2 1063 := ⟨by decide +kernel, rfl⟩
theorem iL_law_1063 : am_at 131 1063 (.iconst 3) 1 1064 := ⟨by decide +kernel, rfl⟩
theorem iL_law_1064 : am_at 131 1064 (.iadd) 1 1065 := ⟨by decide +kernel, rfl⟩
theorem iL_law_1065 : am_at 131 1065 (.iaload) 1 1066 := ⟨by decide +kernel, rfl⟩
theorem iL_law_1066 : am_at 131 1066 (.invokevirtual 144) 3 1069 := ⟨by decide +kernel, rfl⟩
theorem cL_law_144 : am_sV 131 144 103 7 := ⟨wd_945, wd_946, wd_947, rfl, by decide⟩
theorem iL_law_1069 : am_at 131 1069 (.lstore 6) 2 1071 := ⟨by decide +kernel, rfl⟩
theorem iL_law_1071 : am_at 131 1071 (.aload_n 2) 1 1072 := ⟨by decide +kernel, rfl⟩
theorem iL_law_1072 : am_at 131 1072 (.invokevirtual 97) 3 1075 := ⟨by decide +kernel, rfl⟩
theorem iL_law_1075 : am_at 131 1075 (.iload 5) 2 1077 := ⟨by decide +kernel, rfl⟩
theorem iL_law_1077 : am_jp 131 1077 (.if_icmp .eq 5) 5 1082 1080 := ⟨by decide +kernel, by decide, rfl⟩
theorem iL_law_1080 : am_at 131 1080 (.iconst 0) 1 1081 := ⟨by decide +kernel, rfl⟩
theorem iL_law_1081 : am_at 131 1081 (.ireturn) 1 1082 := ⟨by decide +kernel, rfl⟩
theorem iL_law_1082 : am_at 131 1082 (.iload 5) 2 1084 := ⟨by decide +kernel, rfl⟩
theorem iL_law_1084 : am_jp 131 1084 (.ifCond .ne 14) 14 1098 1087 := ⟨by decide +kernel, by decide, rfl⟩
theorem iL_law_1087 : am_at 131 1087 (.aload_n 3) 1 1088 := ⟨by decide +kernel, rfl⟩
theorem iL_law_1088 : am_at 131 1088 (.iconst 0) 1 1089 := ⟨by decide +kernel, rfl⟩
theorem iL_law_1089 : am_at 131 1089 (.laload) 1 1090 := ⟨by decide +kernel, rfl⟩
theorem iL_law_1090 : am_at 131 1090 (.lload 6) 2 1092 := ⟨by decide +kernel, rfl⟩
theorem iL_law_1092 : am_at 131 1092 (.lcmp) 1 1093 := ⟨by decide +kernel, rfl⟩
theorem iL_law_1093 : am_jp 131 1093 (.ifCond .eq 5) 5 1098 1096 := ⟨by decide +kernel, by decide, rfl⟩
theorem iL_law_1096 : am_at 131 1096 (.iconst 0) 1 1097 := ⟨by decide +kernel, rfl⟩
theorem iL_law_1097 : am_at 131 1097 (.ireturn) 1 1098 := ⟨by decide +kernel, rfl⟩
theorem iL_law_1098 : am_jp 131 1098 (.goto 523) 523 1621 1101 := ⟨by decide +kernel, by decide, rfl⟩
theorem iL_law_1101 : am_at 131 1101 (.aload_n 1) 1 1102 := ⟨by decide +kernel, rfl⟩
theorem iL_law_1102 : am_at 131 1102 (.aload_n 0) 1 1103 := ⟨by decide +kernel, rfl⟩
theorem iL_law_1103 : am_at 131 1103 (.iload 4) 2 1105 := ⟨by decide +kernel, rfl⟩
theorem iL_law_1105 : am_at 131 1105 (.iconst 1) 1 1106 := ⟨by decide +kernel, rfl⟩
theorem iL_law_1106 : am_at 131 1106 (.iadd) 1 1107 := ⟨by decide +kernel, rfl⟩
theorem iL_law_1107 : am_at 131 1107 (.iaload) 1 1108 := ⟨by decide +kernel, rfl⟩
theorem iL_law_1108 : am_at 131 1108 (.aload_n 0) 1 1109 := ⟨by decide +kernel, rfl⟩
theorem iL_law_1109 : am_at 131 1109 (.iload 4) 2 1111 := ⟨by decide +kernel, rfl⟩
theorem iL_law_1111 : am_at 131 1111 (.iconst 2) 1 1112 := ⟨by decide +kernel, rfl⟩
theorem iL_law_1112 : am_at 131 1112 (.iadd) 1 1113 := ⟨by decide +kernel, rfl⟩
theorem iL_law_1113 : am_at 131 1113 (.iaload) 1 1114 := ⟨by decide +kernel, rfl⟩
theorem iL_law_1114 : am_at 131 1114 (.aload_n 3) 1 1115 := ⟨by decide +kernel, rfl⟩
theorem iL_law_1115 : am_at 131 1115 (.invokestatic 145) 3 1118 := ⟨by decide +kernel, rfl⟩
theorem cL_law_145 : am_sS 131 145 124 := ⟨wd_610, wd_611, wd_0⟩
theorem iL_law_1118 : am_at 131 1118 (.istore 5) 2 1120 := ⟨by decide +kernel, rfl⟩
theorem iL_law_1120 : am_at 131 1120 (.aload_n 2) 1 1121 := ⟨by decide +kernel, rfl⟩
theorem iL_law_1121 : am_at 131 1121 (.aload_n 0) 1 1122 := ⟨by decide +kernel, rfl⟩
theorem iL_law_1122 : am_at 131 1122 (.iload 4) 2 1124 := ⟨by decide +kernel, rfl⟩
theorem iL_law_1124 : am_at 131 1124 (.iconst 1) 1 1125 := ⟨by decide +kernel, rfl⟩
theorem iL_law_1125 : am_at 131 1125 (.iadd) 1 1126 := ⟨by decide +kernel, rfl⟩
theorem iL_law_1126 : am_at 131 1126 (.iaload) 1 1127 := ⟨by decide +kernel, rfl⟩
theorem iL_law_1127 : am_at 131 1127 (.aload_n 0) 1 1128 := ⟨by decide +kernel, rfl⟩
theorem iL_law_1128 : am_at 131 1128 (.iload 4) 2 1130 := ⟨by decide +kernel, rfl⟩
theorem iL_law_1130 : am_at 131 1130 (.iconst 2) 1 1131 := ⟨by decide +kernel, rfl⟩
theorem iL_law_1131 : am_at 131 1131 (.iadd) 1 1132 := ⟨by decide +kernel, rfl⟩
theorem iL_law_1132 : am_at 131 1132 (.iaload) 1 1133 := ⟨by decide +kernel, rfl⟩
theorem iL_law_1133 : am_at 131 1133 (.invokevirtual 147) 3 1136 := ⟨by decide +kernel, rfl⟩
theorem cL_law_147 : am_sV 131 147 104 7 := ⟨wd_949, wd_950, wd_951, rfl, by decide⟩
theorem iL_law_1136 : am_at 131 1136 (.istore 6) 2 1138 := ⟨by decide +kernel, rfl⟩
theorem iL_law_1138 : am_at 131 1138 (.aload_n 2) 1 1139 := ⟨by decide +kernel, rfl⟩
theorem iL_law_1139 : am_at 131 1139 (.invokevirtual 97) 3 1142 := ⟨by decide +kernel, rfl⟩
theorem iL_law_1142 : am_at 131 1142 (.iload 5) 2 1144 := ⟨by decide +kernel, rfl⟩
theorem iL_law_1144 : am_jp 131 1144 (.if_icmp .eq 5) 5 1149 1147 := ⟨by decide +kernel, by decide, rfl⟩
theorem iL_law_1147 : am_at 131 1147 (.iconst 0) 1 1148 := ⟨by decide +kernel, rfl⟩
theorem iL_law_1148 : am_at 131 1148 (.ireturn) 1 1149 := ⟨by decide +kernel, rfl⟩
theorem iL_law_1149 : am_at 131 1149 (.iload 5) 2 1151 := ⟨by decide +kernel, rfl⟩
theorem iL_law_1151 : am_jp 131 1151 (.ifCond .ne 15) 15 1166 1154 := ⟨by decide +kernel, by decide, rfl⟩
theorem iL_law_1154 : am_at 131 1154 (.aload_n 3) 1 1155 := ⟨by decide +kernel, rfl⟩
theorem iL_law_1155 : am_at 131 1155 (.iconst 0) 1 1156 := ⟨by decide +kernel, rfl⟩
theorem iL_law_1156 : am_at 131 1156 (.laload) 1 1157 := ⟨by decide +kernel, rfl⟩
theorem iL_law_1157 : am_at 131 1157 (.iload 6) 2 1159 := ⟨by decide +kernel, rfl⟩
theorem iL_law_1159 : am_at 131 1159 (.i2l) 1 1160 := ⟨by decide +kernel, rfl⟩
theorem iL_law_1160 : am_at 131 1160 (.lcmp) 1 1161 := ⟨by decide +kernel, rfl⟩
theorem iL_law_1161 : am_jp 131 1161 (.ifCond .eq 5) 5 1166 1164 := ⟨by decide +kernel, by decide, rfl⟩
theorem iL_law_1164 : am_at 131 1164 (.iconst 0) 1 1165 := ⟨by decide +kernel, rfl⟩
theorem iL_law_1165 : am_at 131 1165 (.ireturn) 1 1166 := ⟨by decide +kernel, rfl⟩
theorem iL_law_1166 : am_jp 131 1166 (.goto 455) 455 1621 1169 := ⟨by decide +kernel, by decide, rfl⟩
theorem iL_law_1169 : am_at 131 1169 (.aload_n 1) 1 1170 := ⟨by decide +kernel, rfl⟩
theorem iL_law_1170 : am_at 131 1170 (.aload_n 0) 1 1171 := ⟨by decide +kernel, rfl⟩
theorem iL_law_1171 : am_at 131 1171 (.iload 4) 2 1173 := ⟨by decide +kernel, rfl⟩
theorem iL_law_1173 : am_at 131 1173 (.iconst 1) 1 1174 := ⟨by decide +kernel, rfl⟩
theorem iL_law_1174 : am_at 131 1174 (.iadd) 1 1175 := ⟨by decide +kernel, rfl⟩
theorem iL_law_1175 : am_at 131 1175 (.iaload) 1 1176 := ⟨by decide +kernel, rfl⟩
theorem iL_law_1176 : am_at 131 1176 (.aload_n 0) 1 1177 := ⟨by decide +kernel, rfl⟩
theorem iL_law_1177 : am_at 131 1177 (.iload 4) 2 1179 := ⟨by decide +kernel, rfl⟩
theorem iL_law_1179 : am_at 131 1179 (.iconst 2) 1 1180 := ⟨by decide +kernel, rfl⟩
theorem iL_law_1180 : am_at 131 1180 (.iadd) 1 1181 := ⟨by decide +kernel, rfl⟩
theorem iL_law_1181 : am_at 131 1181 (.iaload) 1 1182 := ⟨by decide +kernel, rfl⟩
theorem iL_law_1182 : am_at 131 1182 (.aload_n 3) 1 1183 := ⟨by decide +kernel, rfl⟩
theorem iL_law_1183 : am_at 131 1183 (.invokestatic 148) 3 1186 := ⟨by decide +kernel, rfl⟩
theorem cL_law_148 : am_sS 131 148 125 := ⟨wd_617, wd_618, wd_0⟩
theorem iL_law_1186 : am_at 131 1186 (.istore 5) 2 1188 := ⟨by decide +kernel, rfl⟩
theorem iL_law_1188 : am_at 131 1188 (.aload_n 2) 1 1189 := ⟨by decide +kernel, rfl⟩
theorem iL_law_1189 : am_at 131 1189 (.aload_n 0) 1 1190 := ⟨by decide +kernel, rfl⟩
theorem iL_law_1190 : am_at 131 1190 (.iload 4) 2 1192 := ⟨by decide +kernel, rfl⟩
theorem iL_law_1192 : am_at 131 1192 (.iconst 1) 1 1193 := ⟨by decide +kernel, rfl⟩
theorem iL_law_1193 : am_at 131 1193 (.iadd) 1 1194 := ⟨by decide +kernel, rfl⟩
theorem iL_law_1194 : am_at 131 1194 (.iaload) 1 1195 := ⟨by decide +kernel, rfl⟩
theorem iL_law_1195 : am_at 131 1195 (.aload_n 0) 1 1196 := ⟨by decide +kernel, rfl⟩
theorem iL_law_1196 : am_at 131 1196 (.iload 4) 2 1198 := ⟨by decide +kernel, rfl⟩
theorem iL_law_1198 : am_at 131 1198 (.iconst 2) 1 1199 := ⟨by decide +kernel, rfl⟩
theorem iL_law_1199 : am_at 131 1199 (.iadd) 1 1200 := ⟨by decide +kernel, rfl⟩
theorem iL_law_1200 : am_at 131 1200 (.iaload) 1 1201 := ⟨by decide +kernel, rfl⟩
theorem iL_law_1201 : am_at 131 1201 (.invokevirtual 150) 3 1204 := ⟨by decide +kernel, rfl⟩
theorem cL_law_150 : am_sV 131 150 105 7 := ⟨wd_953, wd_954, wd_955, rfl, by decide⟩
theorem iL_law_1204 : am_at 131 1204 (.istore 6) 2 1206 := ⟨by decide +kernel, rfl⟩
theorem iL_law_1206 : am_at 131 1206 (.aload_n 2) 1 1207 := ⟨by decide +kernel, rfl⟩
theorem iL_law_1207 : am_at 131 1207 (.invokevirtual 97) 3 1210 := ⟨by decide +kernel, rfl⟩
theorem iL_law_1210 : am_at 131 1210 (.iload 5) 2 1212 := ⟨by decide +kernel, rfl⟩
theorem iL_law_1212 : am_jp 131 1212 (.if_icmp .eq 5) 5 1217 1215 := ⟨by decide +kernel, by decide, rfl⟩
theorem iL_law_1215 : am_at 131 1215 (.iconst 0) 1 1216 := ⟨by decide +kernel, rfl⟩
theorem iL_law_1216 : am_at 131 1216 (.ireturn) 1 1217 := ⟨by decide +kernel, rfl⟩
theorem iL_law_1217 : am_at 131 1217 (.iload 5) 2 1219 := ⟨by decide +kernel, rfl⟩
theorem iL_law_1219 : am_jp 131 1219 (.ifCond .ne 15) 15 1234 1222 := ⟨by decide +kernel, by decide, rfl⟩
theorem iL_law_1222 : am_at 131 1222 (.aload_n 3) 1 1223 := ⟨by decide +kernel, rfl⟩
theorem iL_law_1223 : am_at 131 1223 (.iconst 0) 1 1224 := ⟨by decide +kernel, rfl⟩
theorem iL_law_1224 : am_at 131 1224 (.laload) 1 1225 := ⟨by decide +kernel, rfl⟩
theorem iL_law_1225 : am_at 131 1225 (.iload 6) 2 1227 := ⟨by decide +kernel, rfl⟩
theorem iL_law_1227 : am_at 131 1227 (.i2l) 1 1228 := ⟨by decide +kernel, rfl⟩
theorem iL_law_1228 : am_at 131 1228 (.lcmp) 1 1229 := ⟨by decide +kernel, rfl⟩
theorem iL_law_1229 : am_jp 131 1229 (.ifCond .eq 5) 5 1234 1232 := ⟨by decide +kernel, by decide, rfl⟩
theorem iL_law_1232 : am_at 131 1232 (.iconst 0) 1 1233 := ⟨by decide +kernel, rfl⟩
theorem iL_law_1233 : am_at 131 1233 (.ireturn) 1 1234 := ⟨by decide +kernel, rfl⟩
theorem iL_law_1234 : am_jp 131 1234 (.goto 387) 387 1621 1237 := ⟨by decide +kernel, by decide, rfl⟩
theorem iL_law_1237 : am_at 131 1237 (.aload_n 1) 1 1238 := ⟨by decide +kernel, rfl⟩
theorem iL_law_1238 : am_at 131 1238 (.aload_n 0) 1 1239 := ⟨by decide +kernel, rfl⟩
theorem iL_law_1239 : am_at 131 1239 (.iload 4) 2 1241 := ⟨by decide +kernel, rfl⟩
theorem iL_law_1241 : am_at 131 1241 (.iconst 1) 1 1242 := ⟨by decide +kernel, rfl⟩
theorem iL_law_1242 : am_at 131 1242 (.iadd) 1 1243 := ⟨by decide +kernel, rfl⟩
theorem iL_law_1243 : am_at 131 1243 (.iaload) 1 1244 := ⟨by decide +kernel, rfl⟩
theorem iL_law_1244 : am_at 131 1244 (.aload_n 0) 1 1245 := ⟨by decide +kernel, rfl⟩
theorem iL_law_1245 : am_at 131 1245 (.iload 4) 2 1247 := ⟨by decide +kernel, rfl⟩
theorem iL_law_1247 : am_at 131 1247 (.iconst 2) 1 1248 := ⟨by decide +kernel, rfl⟩
theorem iL_law_1248 : am_at 131 1248 (.iadd) 1 1249 := ⟨by decide +kernel, rfl⟩
theorem iL_law_1249 : am_at 131 1249 (.iaload) 1 1250 := ⟨by decide +kernel, rfl⟩
theorem iL_law_1250 : am_at 131 1250 (.aload_n 3) 1 1251 := ⟨by decide +kernel, rfl⟩
theorem iL_law_1251 : am_at 131 1251 (.invokestatic 151) 3 1254 := ⟨by decide +kernel, rfl⟩
theorem cL_law_151 : am_sS 131 151 126 := ⟨wd_624, wd_625, wd_0⟩
theorem iL_law_1254 : am_at 131 1254 (.istore 5) 2 1256 := ⟨by decide +kernel, rfl⟩
theorem iL_law_1256 : am_at 131 1256 (.aload_n 2) 1 1257 := ⟨by decide +kernel, rfl⟩
theorem iL_law_1257 : am_at 131 1257 (.aload_n 0) 1 1258 := ⟨by decide +kernel, rfl⟩
theorem iL_law_1258 : am_at 131 1258 (.iload 4) 2 1260 := ⟨by decide +kernel, rfl⟩
theorem iL_law_1260 : am_at 131 1260 (.iconst 1) 1 1261 := ⟨by decide +kernel, rfl⟩
theorem iL_law_1261 : am_at 131 1261 (.iadd) 1 1262 := ⟨by decide +kernel, rfl⟩
theorem iL_law_1262 : am_at 131 1262 (.iaload) 1 1263 := ⟨by decide +kernel, rfl⟩
theorem iL_law_1263 : am_at 131 1263 (.aload_n 0) 1 1264 := ⟨by decide +kernel, rfl⟩
theorem iL_law_1264 : am_at 131 1264 (.iload 4) 2 1266 := ⟨by decide +kernel, rfl⟩
theorem iL_law_1266 : am_at 131 1266 (.iconst 2) 1 1267 := ⟨by decide +kernel, rfl⟩
theorem iL_law_1267 : am_at 131 1267 (.iadd) 1 1268 := ⟨by decide +kernel, rfl⟩
theorem iL_law_1268 : am_at 131 1268 (.iaload) 1 1269 := ⟨by decide +kernel, rfl⟩
theorem iL_law_1269 : am_at 131 1269 (.invokevirtual 153) 3 1272 := ⟨by decide +kernel, rfl⟩
theorem cL_law_153 : am_sV 131 153 106 7 := ⟨wd_957, wd_958, wd_959, rfl, by decide⟩
theorem iL_law_1272 : am_at 131 1272 (.istore 6) 2 1274 := ⟨by decide +kernel, rfl⟩
theorem iL_law_1274 : am_at 131 1274 (.aload_n 2) 1 1275 := ⟨by decide +kernel, rfl⟩
theorem iL_law_1275 : am_at 131 1275 (.invokevirtual 97) 3 1278 := ⟨by decide +kernel, rfl⟩
theorem iL_law_1278 : am_at 131 1278 (.iload 5) 2 1280 := ⟨by decide +kernel, rfl⟩
theorem iL_law_1280 : am_jp 131 1280 (.if_icmp .eq 5) 5 1285 1283 := ⟨by decide +kernel, by decide, rfl⟩
theorem iL_law_1283 : am_at 131 1283 (.iconst 0) 1 1284 := ⟨by decide +kernel, rfl⟩
theorem iL_law_1284 : am_at 131 1284 (.ireturn) 1 1285 := ⟨by decide +kernel, rfl⟩
theorem iL_law_1285 : am_at 131 1285 (.iload 5) 2 1287 := ⟨by decide +kernel, rfl⟩
theorem iL_law_1287 : am_jp 131 1287 (.ifCond .ne 15) 15 1302 1290 := ⟨by decide +kernel, by decide, rfl⟩
theorem iL_law_1290 : am_at 131 1290 (.aload_n 3) 1 1291 := ⟨by decide +kernel, rfl⟩
theorem iL_law_1291 : am_at 131 1291 (.iconst 0) 1 1292 := ⟨by decide +kernel, rfl⟩
theorem iL_law_1292 : am_at 131 1292 (.laload) 1 1293 := ⟨by decide +kernel, rfl⟩
theorem iL_law_1293 : am_at 131 1293 (.iload 6) 2 1295 := ⟨by decide +kernel, rfl⟩
theorem iL_law_1295 : am_at 131 1295 (.i2l) 1 1296 := ⟨by decide +kernel, rfl⟩
theorem iL_law_1296 : am_at 131 1296 (.lcmp) 1 1297 := ⟨by decide +kernel, rfl⟩
theorem iL_law_1297 : am_jp 131 1297 (.ifCond .eq 5) 5 1302 1300 := ⟨by decide +kernel, by decide, rfl⟩
theorem iL_law_1300 : am_at 131 1300 (.iconst 0) 1 1301 := ⟨by decide +kernel, rfl⟩
theorem iL_law_1301 : am_at 131 1301 (.ireturn) 1 1302 := ⟨by decide +kernel, rfl⟩
theorem iL_law_1302 : am_jp 131 1302 (.goto 319) 319 1621 1305 := ⟨by decide +kernel, by decide, rfl⟩
theorem iL_law_1305 : am_at 131 1305 (.aload_n 1) 1 1306 := ⟨by decide +kernel, rfl⟩
theorem iL_law_1306 : am_at 131 1306 (.aload_n 0) 1 1307 := ⟨by decide +kernel, rfl⟩
theorem iL_law_1307 : am_at 131 1307 (.iload 4) 2 1309 := ⟨by decide +kernel, rfl⟩
theorem iL_law_1309 : am_at 131 1309 (.iconst 1) 1 1310 := ⟨by decide +kernel, rfl⟩
theorem iL_law_1310 : am_at 131 1310 (.iadd) 1 1311 := ⟨by decide +kernel, rfl⟩
theorem iL_law_1311 : am_at 131 1311 (.iaload) 1 1312 := ⟨by decide +kernel, rfl⟩
theorem iL_law_1312 : am_at 131 1312 (.aload_n 0) 1 1313 := ⟨by decide +kernel, rfl⟩
theorem iL_law_1313 : am_at 131 1313 (.iload 4) 2 1315 := ⟨by decide +kernel, rfl⟩
theorem iL_law_1315 : am_at 131 1315 (.iconst 2) 1 1316 := ⟨by decide +kernel, rfl⟩
theorem iL_law_1316 : am_at 131 1316 (.iadd) 1 1317 := ⟨by decide +kernel, rfl⟩
theorem iL_law_1317 : am_at 131 1317 (.iaload) 1 1318 := ⟨by decide +kernel, rfl⟩
theorem iL_law_1318 : am_at 131 1318 (.aload_n 0) 1 1319 := ⟨by decide +kernel, rfl⟩
theorem iL_law_1319 : am_at 131 1319 (.iload 4) 2 1321 := ⟨by decide +kernel, rfl⟩
theorem iL_law_1321 : am_at 131 1321 (.iconst 3) 1 1322 := ⟨by decide +kernel, rfl⟩
theorem iL_law_1322 : am_at 131 1322 (.iadd) 1 1323 := ⟨by decide +kernel, rfl⟩
theorem iL_law_1323 : am_at 131 1323 (.iaload) 1 1324 := ⟨by decide +kernel, rfl⟩
theorem iL_law_1324 : am_at 131 1324 (.aload_n 3) 1 1325 := ⟨by decide +kernel, rfl⟩
theorem iL_law_1325 : am_at 131 1325 (.invokestatic 154) 3 1328 := ⟨by decide +kernel, rfl⟩
theorem cL_law_154 : am_sS 131 154 127 := ⟨wd_631, wd_632, wd_0⟩
theorem iL_law_1328 : am_at 131 1328 (.istore 5) 2 1330 := ⟨by decide +kernel, rfl⟩
theorem iL_law_1330 : am_at 131 1330 (.aload_n 2) 1 1331 := ⟨by decide +kernel, rfl⟩
theorem iL_law_1331 : am_at 131 1331 (.aload_n 0) 1 1332 := ⟨by decide +kernel, rfl⟩
theorem iL_law_1332 : am_at 131 1332 (.iload 4) 2 1334 := ⟨by decide +kernel, rfl⟩
theorem iL_law_1334 : am_at 131 1334 (.iconst 1) 1 1335 := ⟨by decide +kernel, rfl⟩
theorem iL_law_1335 : am_at 131 1335 (.iadd) 1 1336 := ⟨by decide +kernel, rfl⟩
theorem iL_law_1336 : am_at 131 1336 (.iaload) 1 1337 := ⟨by decide +kernel, rfl⟩
theorem iL_law_1337 : am_at 131 1337 (.aload_n 0) 1 1338 := ⟨by decide +kernel, rfl⟩
theorem iL_law_1338 : am_at 131 1338 (.iload 4) 2 1340 := ⟨by decide +kernel, rfl⟩
theorem iL_law_1340 : am_at 131 1340 (.iconst 2) 1 1341 := ⟨by decide +kernel, rfl⟩
theorem iL_law_1341 : am_at 131 1341 (.iadd) 1 1342 := ⟨by decide +kernel, rfl⟩
theorem iL_law_1342 : am_at 131 1342 (.iaload) 1 1343 := ⟨by decide +kernel, rfl⟩
theorem iL_law_1343 : am_at 131 1343 (.aload_n 0) 1 1344 := ⟨by decide +kernel, rfl⟩
theorem iL_law_1344 : am_at 131 1344 (.iload 4) 2 1346 := ⟨by decide +kernel, rfl⟩
theorem iL_law_1346 : am_at 131 1346 (.iconst 3) 1 1347 := ⟨by decide +kernel, rfl⟩
theorem iL_law_1347 : am_at 131 1347 (.iadd) 1 1348 := ⟨by decide +kernel, rfl⟩
theorem iL_law_1348 : am_at 131 1348 (.iaload) 1 1349 := ⟨by decide +kernel, rfl⟩
theorem iL_law_1349 : am_at 131 1349 (.invokevirtual 156) 3 1352 := ⟨by decide +kernel, rfl⟩
theorem cL_law_156 : am_sV 131 156 107 7 := ⟨wd_961, wd_962, wd_963, rfl, by decide⟩
theorem iL_law_1352 : am_at 131 1352 (.istore 6) 2 1354 := ⟨by decide +kernel, rfl⟩
theorem iL_law_1354 : am_at 131 1354 (.aload_n 2) 1 1355 := ⟨by decide +kernel, rfl⟩
theorem iL_law_1355 : am_at 131 1355 (.invokevirtual 97) 3 1358 := ⟨by decide +kernel, rfl⟩
theorem iL_law_1358 : am_at 131 1358 (.iload 5) 2 1360 := ⟨by decide +kernel, rfl⟩
theorem iL_law_1360 : am_jp 131 1360 (.if_icmp .eq 5) 5 1365 1363 := ⟨by decide +kernel, by decide, rfl⟩
theorem iL_law_1363 : am_at 131 1363 (.iconst 0) 1 1364 := ⟨by decide +kernel, rfl⟩
theorem iL_law_1364 : am_at 131 1364 (.ireturn) 1 1365 := ⟨by decide +kernel, rfl⟩
theorem iL_law_1365 : am_at 131 1365 (.iload 5) 2 1367 := ⟨by decide +kernel, rfl⟩
theorem iL_law_1367 : am_jp 131 1367 (.ifCond .ne 15) 15 1382 1370 := ⟨by decide +kernel, by decide, rfl⟩
theorem iL_law_1370 : am_at 131 1370 (.aload_n 3) 1 1371 := ⟨by decide +kernel, rfl⟩
theorem iL_law_1371 : am_at 131 1371 (.iconst 0) 1 1372 := ⟨by decide +kernel, rfl⟩
theorem iL_law_1372 : am_at 131 1372 (.laload) 1 1373 := ⟨by decide +kernel, rfl⟩
theorem iL_law_1373 : am_at 131 1373 (.iload 6) 2 1375 := ⟨by decide +kernel, rfl⟩
theorem iL_law_1375 : am_at 131 1375 (.i2l) 1 1376 := ⟨by decide +kernel, rfl⟩
theorem iL_law_1376 : am_at 131 1376 (.lcmp) 1 1377 := ⟨by decide +kernel, rfl⟩
theorem iL_law_1377 : am_jp 131 1377 (.ifCond .eq 5) 5 1382 1380 := ⟨by decide +kernel, by decide, rfl⟩
theorem iL_law_1380 : am_at 131 1380 (.iconst 0) 1 1381 := ⟨by decide +kernel, rfl⟩
theorem iL_law_1381 : am_at 131 1381 (.ireturn) 1 1382 := ⟨by decide +kernel, rfl⟩
theorem iL_law_1382 : am_jp 131 1382 (.goto 239) 239 1621 1385 := ⟨by decide +kernel, by decide, rfl⟩
theorem iL_law_1385 : am_at 131 1385 (.aload_n 1) 1 1386 := ⟨by decide +kernel, rfl⟩
theorem iL_law_1386 : am_at 131 1386 (.aload_n 0) 1 1387 := ⟨by decide +kernel, rfl⟩
theorem iL_law_1387 : am_at 131 1387 (.iload 4) 2 1389 := ⟨by decide +kernel, rfl⟩
theorem iL_law_1389 : am_at 131 1389 (.iconst 1) 1 1390 := ⟨by decide +kernel, rfl⟩
theorem iL_law_1390 : am_at 131 1390 (.iadd) 1 1391 := ⟨by decide +kernel, rfl⟩
theorem iL_law_1391 : am_at 131 1391 (.iaload) 1 1392 := ⟨by decide +kernel, rfl⟩
end
section
theorem iL_law_1392 : am_at 131 1392 (.aload_n 0) 1 1393 := ⟨by decide +kernel, rfl⟩
theorem iL_law_1393 : am_at 131 1393 (.iload 4) 2 1395 := ⟨by decide +kernel, rfl⟩
theorem iL_law_1395 : am_at 131 1395 (.iconst 2) 1 1396 := ⟨by decide +kernel, rfl⟩
theorem iL_law_1396 : am_at 131 1396 (.iadd) 1 1397 := ⟨by decide +kernel, rfl⟩
theorem iL_law_1397 : am_at 131 1397 (.iaload) 1 1398 := ⟨by decide +kernel, rfl⟩
theorem iL_law_1398 : am_at 131 1398 (.aload_n 0) 1 1399 := ⟨by decide +kernel, rfl⟩
theorem iL_law_1399 : am_at 131 1399 (.iload 4) 2 1401 := ⟨by decide +kernel, rfl⟩
theorem iL_law_1401 : am_at 131 1401 (.iconst 3) 1 1402 := ⟨by decide +kernel, rfl⟩
theorem iL_law_1402 : am_at 131 1402 (.iadd) 1 1403 := ⟨by decide +kernel, rfl⟩
theorem iL_law_1403 : am_at 131 1403 (.iaload) 1 1404 := ⟨by decide +kernel, rfl⟩
theorem iL_law_1404 : am_at 131 1404 (.aload_n 3) 1 1405 := ⟨by decide +kernel, rfl⟩
theorem iL_law_1405 : am_at 131 1405 (.invokestatic 157) 3 1408 := ⟨by decide +kernel, rfl⟩
theorem cL_law_157 : am_sS 131 157 128 := ⟨wd_639, wd_640, wd_0⟩
theorem iL_law_1408 : am_at 131 1408 (.istore 5) 2 1410 := ⟨by decide +kernel, rfl⟩
theorem iL_law_1410 : am_at 131 1410 (.aload_n 2) 1 1411 := ⟨by decide +kernel, rfl⟩
theorem iL_law_1411 : am_at 131 1411 (.aload_n 0) 1 1412 := ⟨by decide +kernel, rfl⟩
theorem iL_law_1412 : am_at 131 1412 (.iload 4) 2 1414 := ⟨by decide +kernel, rfl⟩
theorem iL_law_1414 : am_at 131 1414 (.iconst 1) 1 1415 := ⟨by decide +kernel, rfl⟩
theorem iL_law_1415 : am_at 131 1415 (.iadd) 1 1416 := ⟨by decide +kernel, rfl⟩
theorem iL_law_1416 : am_at 131 1416 (.iaload) 1 1417 := ⟨by decide +kernel, rfl⟩
theorem iL_law_1417 : am_at 131 1417 (.aload_n 0) 1 1418 := ⟨by decide +kernel, rfl⟩
theorem iL_law_1418 : am_at 131 1418 (.iload 4) 2 1420 := ⟨by decide +kernel, rfl⟩
theorem iL_law_1420 : am_at 131 1420 (.iconst 2) 1 1421 := ⟨by decide +kernel, rfl⟩
theorem iL_law_1421 : am_at 131 1421 (.iadd) 1 1422 := ⟨by decide +kernel, rfl⟩
theorem iL_law_1422 : am_at 131 1422 (.iaload) 1 1423 := ⟨by decide +kernel, rfl⟩
theorem iL_law_1423 : am_at 131 1423 (.aload_n 0) 1 1424 := ⟨by decide +kernel, rfl⟩
theorem iL_law_1424 : am_at 131 1424 (.iload 4) 2 1426 := ⟨by decide +kernel, rfl⟩
theorem iL_law_1426 : am_at 131 1426 (.iconst 3) 1 1427 := ⟨by decide +kernel, rfl⟩
theorem iL_law_1427 : am_at 131 1427 (.iadd) 1 1428 := ⟨by decide +kernel, rfl⟩
theorem iL_law_1428 : am_at 131 1428 (.iaload) 1 1429 := ⟨by decide +kernel, rfl⟩
theorem iL_law_1429 : am_at 131 1429 (.invokevirtual 159) 3 1432 := ⟨by decide +kernel, rfl⟩
theorem cL_law_159 : am_sV 131 159 108 7 := ⟨wd_966, wd_967, wd_968, rfl, by decide⟩
theorem iL_law_1432 : am_at 131 1432 (.istore 6) 2 1434 := ⟨by decide +kernel, rfl⟩
theorem iL_law_1434 : am_at 131 1434 (.aload_n 2) 1 1435 := ⟨by decide +kernel, rfl⟩
theorem iL_law_1435 : am_at 131 1435 (.invokevirtual 97) 3 1438 := ⟨by decide +kernel, rfl⟩
theorem iL_law_1438 : am_at 131 1438 (.iload 5) 2 1440 := ⟨by decide +kernel, rfl⟩
theorem iL_law_1440 : am_jp 131 1440 (.if_icmp .eq 5) 5 1445 1443 := ⟨by decide +kernel, by decide, rfl⟩
theorem iL_law_1443 : am_at 131 1443 (.iconst 0) 1 1444 := ⟨by decide +kernel, rfl⟩
theorem iL_law_1444 : am_at 131 1444 (.ireturn) 1 1445 := ⟨by decide +kernel, rfl⟩
theorem iL_law_1445 : am_at 131 1445 (.iload 5) 2 1447 := ⟨by decide +kernel, rfl⟩
theorem iL_law_1447 : am_jp 131 1447 (.ifCond .ne 15) 15 1462 1450 := ⟨by decide +kernel, by decide, rfl⟩
theorem iL_law_1450 : am_at 131 1450 (.aload_n 3) 1 1451 := ⟨by decide +kernel, rfl⟩
theorem iL_law_1451 : am_at 131 1451 (.iconst 0) 1 1452 := ⟨by decide +kernel, rfl⟩
theorem iL_law_1452 : am_at 131 1452 (.laload) 1 1453 := ⟨by decide +kernel, rfl⟩
theorem iL_law_1453 : am_at 131 1453 (.iload 6) 2 1455 := ⟨by decide +kernel, rfl⟩
theorem iL_law_1455 : am_at 131 1455 (.i2l) 1 1456 := ⟨by decide +kernel, rfl⟩
theorem iL_law_1456 : am_at 131 1456 (.lcmp) 1 1457 := ⟨by decide +kernel, rfl⟩
theorem iL_law_1457 : am_jp 131 1457 (.ifCond .eq 5) 5 1462 1460 := ⟨by decide +kernel, by decide, rfl⟩
theorem iL_law_1460 : am_at 131 1460 (.iconst 0) 1 1461 := ⟨by decide +kernel, rfl⟩
theorem iL_law_1461 : am_at 131 1461 (.ireturn) 1 1462 := ⟨by decide +kernel, rfl⟩
theorem iL_law_1462 : am_jp 131 1462 (.goto 159) 159 1621 1465 := ⟨by decide +kernel, by decide, rfl⟩
theorem iL_law_1465 : am_at 131 1465 (.aload_n 1) 1 1466 := ⟨by decide +kernel, rfl⟩
theorem iL_law_1466 : am_at 131 1466 (.aload_n 0) 1 1467 := ⟨by decide +kernel, rfl⟩
theorem iL_law_1467 : am_at 131 1467 (.iload 4) 2 1469 := ⟨by decide +kernel, rfl⟩
theorem iL_law_1469 : am_at 131 1469 (.iconst 1) 1 1470 := ⟨by decide +kernel, rfl⟩
theorem iL_law_1470 : am_at 131 1470 (.iadd) 1 1471 := ⟨by decide +kernel, rfl⟩
theorem iL_law_1471 : am_at 131 1471 (.iaload) 1 1472 := ⟨by decide +kernel, rfl⟩
theorem iL_law_1472 : am_at 131 1472 (.i2l) 1 1473 := ⟨by decide +kernel, rfl⟩
theorem iL_law_1473 : am_at 131 1473 (.bipush 32) 2 1475 := ⟨by decide +kernel, rfl⟩
theorem iL_law_1475 : am_at 131 1475 (.lshl) 1 1476 := ⟨by decide +kernel, rfl⟩
theorem iL_law_1476 : am_at 131 1476 (.aload_n 0) 1 1477 := ⟨by decide +kernel, rfl⟩
theorem iL_law_1477 : am_at 131 1477 (.iload 4) 2 1479 := ⟨by decide +kernel, rfl⟩
theorem iL_law_1479 : am_at 131 1479 (.iconst 2) 1 1480 := ⟨by decide +kernel, rfl⟩
theorem iL_law_1480 : am_at 131 1480 (.iadd) 1 1481 := ⟨by decide +kernel, rfl⟩
theorem iL_law_1481 : am_at 131 1481 (.iaload) 1 1482 := ⟨by decide +kernel, rfl⟩
theorem iL_law_1482 : am_at 131 1482 (.i2l) 1 1483 := ⟨by decide +kernel, rfl⟩
theorem iL_law_1483 : am_at 131 1483 (.ldc2_w 132) 3 1486 := ⟨by decide +kernel, rfl⟩
theorem iL_law_1486 : am_at 131 1486 (.land) 1 1487 := ⟨by decide +kernel, rfl⟩
theorem iL_law_1487 : am_at 131 1487 (.lor) 1 1488 := ⟨by decide +kernel, rfl⟩
theorem iL_law_1488 : am_at 131 1488 (.aload_n 0) 1 1489 := ⟨by decide +kernel, rfl⟩
theorem iL_law_1489 : am_at 131 1489 (.iload 4) 2 1491 := ⟨by decide +kernel, rfl⟩
theorem iL_law_1491 : am_at 131 1491 (.iconst 3) 1 1492 := ⟨by decide +kernel, rfl⟩
theorem iL_law_1492 : am_at 131 1492 (.iadd) 1 1493 := ⟨by decide +kernel, rfl⟩
theorem iL_law_1493 : am_at 131 1493 (.iaload) 1 1494 := ⟨by decide +kernel, rfl⟩
theorem iL_law_1494 : am_at 131 1494 (.aload_n 3) 1 1495 := ⟨by decide +kernel, rfl⟩
theorem iL_law_1495 : am_at 131 1495 (.invokestatic 160) 3 1498 := ⟨by decide +kernel, rfl⟩
theorem cL_law_160 : am_sS 131 160 129 := ⟨wd_646, wd_647, wd_0⟩
theorem iL_law_1498 : am_at 131 1498 (.istore 5) 2 1500 := ⟨by decide +kernel, rfl⟩
theorem iL_law_1500 : am_at 131 1500 (.aload_n 2) 1 1501 := ⟨by decide +kernel, rfl⟩
theorem iL_law_1501 : am_at 131 1501 (.aload_n 0) 1 1502 := ⟨by decide +kernel, rfl⟩
theorem iL_law_1502 : am_at 131 1502 (.iload 4) 2 1504 := ⟨by decide +kernel, rfl⟩
theorem iL_law_1504 : am_at 131 1504 (.iconst 1) 1 1505 := ⟨by decide +kernel, rfl⟩
theorem iL_law_1505 : am_at 131 1505 (.iadd) 1 1506 := ⟨by decide +kernel, rfl⟩
theorem iL_law_1506 : am_at 131 1506 (.iaload) 1 1507 := ⟨by decide +kernel, rfl⟩
theorem iL_law_1507 : am_at 131 1507 (.i2l) 1 1508 := ⟨by decide +kernel, rfl⟩
theorem iL_law_1508 : am_at 131 1508 (.bipush 32) 2 1510 := ⟨by decide +kernel, rfl⟩
theorem iL_law_1510 : am_at 131 1510 (.lshl) 1 1511 := ⟨by decide +kernel, rfl⟩
theorem iL_law_1511 : am_at 131 1511 (.aload_n 0) 1 1512 := ⟨by decide +kernel, rfl⟩
theorem iL_law_1512 : am_at 131 1512 (.iload 4) 2 1514 := ⟨by decide +kernel, rfl⟩
theorem iL_law_1514 : am_at 131 1514 (.iconst 2) 1 1515 := ⟨by decide +kernel, rfl⟩
theorem iL_law_1515 : am_at 131 1515 (.iadd) 1 1516 := ⟨by decide +kernel, rfl⟩
theorem iL_law_1516 : am_at 131 1516 (.iaload) 1 1517 := ⟨by decide +kernel, rfl⟩
theorem iL_law_1517 : am_at 131 1517 (.i2l) 1 1518 := ⟨by decide +kernel, rfl⟩
theorem iL_law_1518 : am_at 131 1518 (.ldc2_w 132) 3 1521 := ⟨by decide +kernel, rfl⟩
theorem iL_law_1521 : am_at 131 1521 (.land) 1 1522 := ⟨by decide +kernel, rfl⟩
theorem iL_law_1522 : am_at 131 1522 (.lor) 1 1523 := ⟨by decide +kernel, rfl⟩
theorem iL_law_1523 : am_at 131 1523 (.aload_n 0) 1 1524 := ⟨by decide +kernel, rfl⟩
theorem iL_law_1524 : am_at 131 1524 (.iload 4) 2 1526 := ⟨by decide +kernel, rfl⟩
theorem iL_law_1526 : am_at 131 1526 (.iconst 3) 1 1527 := ⟨by decide +kernel, rfl⟩
theorem iL_law_1527 : am_at 131 1527 (.iadd) 1 1528 := ⟨by decide +kernel, rfl⟩
theorem iL_law_1528 : am_at 131 1528 (.iaload) 1 1529 := ⟨by decide +kernel, rfl⟩
theorem iL_law_1529 : am_at 131 1529 (.invokevirtual 163) 3 1532 := ⟨by decide +kernel, rfl⟩
theorem cL_law_163 : am_sV 131 163 109 7 := ⟨wd_970, wd_971, wd_972, rfl, by decide⟩
theorem iL_law_1532 : am_at 131 1532 (.istore 6) 2 1534 := ⟨by decide +kernel, rfl⟩
theorem iL_law_1534 : am_at 131 1534 (.aload_n 2) 1 1535 := ⟨by decide +kernel, rfl⟩
theorem iL_law_1535 : am_at 131 1535 (.invokevirtual 97) 3 1538 := ⟨by decide +kernel, rfl⟩
theorem iL_law_1538 : am_at 131 1538 (.iload 5) 2 1540 := ⟨by decide +kernel, rfl⟩
theorem iL_law_1540 : am_jp 131 1540 (.if_icmp .eq 5) 5 1545 1543 := ⟨by decide +kernel, by decide, rfl⟩
theorem iL_law_1543 : am_at 131 1543 (.iconst 0) 1 1544 := ⟨by decide +kernel, rfl⟩
theorem iL_law_1544 : am_at 131 1544 (.ireturn) 1 1545 := ⟨by decide +kernel, rfl⟩
theorem iL_law_1545 : am_at 131 1545 (.iload 5) 2 1547 := ⟨by decide +kernel, rfl⟩
theorem iL_law_1547 : am_jp 131 1547 (.ifCond .ne 15) 15 1562 1550 := ⟨by decide +kernel, by decide, rfl⟩
theorem iL_law_1550 : am_at 131 1550 (.aload_n 3) 1 1551 := ⟨by decide +kernel, rfl⟩
theorem iL_law_1551 : am_at 131 1551 (.iconst 0) 1 1552 := ⟨by decide +kernel, rfl⟩
theorem iL_law_1552 : am_at 131 1552 (.laload) 1 1553 := ⟨by decide +kernel, rfl⟩
theorem iL_law_1553 : am_at 131 1553 (.iload 6) 2 1555 := ⟨by decide +kernel, rfl⟩
theorem iL_law_1555 : am_at 131 1555 (.i2l) 1 1556 := ⟨by decide +kernel, rfl⟩
theorem iL_law_1556 : am_at 131 1556 (.lcmp) 1 1557 := ⟨by decide +kernel, rfl⟩
theorem iL_law_1557 : am_jp 131 1557 (.ifCond .eq 5) 5 1562 1560 := ⟨by decide +kernel, by decide, rfl⟩
theorem iL_law_1560 : am_at 131 1560 (.iconst 0) 1 1561 := ⟨by decide +kernel, rfl⟩
theorem iL_law_1561 : am_at 131 1561 (.ireturn) 1 1562 := ⟨by decide +kernel, rfl⟩
theorem iL_law_1562 : am_jp 131 1562 (.goto 59) 59 1621 1565 := ⟨by decide +kernel, by decide, rfl⟩
theorem iL_law_1565 : am_at 131 1565 (.aload_n 1) 1 1566 := ⟨by decide +kernel, rfl⟩
theorem iL_law_1566 : am_at 131 1566 (.aload_n 0) 1 1567 := ⟨by decide +kernel, rfl⟩
theorem iL_law_1567 : am_at 131 1567 (.iload 4) 2 1569 := ⟨by decide +kernel, rfl⟩
theorem iL_law_1569 : am_at 131 1569 (.iconst 1) 1 1570 := ⟨by decide +kernel, rfl⟩
theorem iL_law_1570 : am_at 131 1570 (.iadd) 1 1571 := ⟨by decide +kernel, rfl⟩
theorem iL_law_1571 : am_at 131 1571 (.iaload) 1 1572 := ⟨by decide +kernel, rfl⟩
theorem iL_law_1572 : am_at 131 1572 (.aload_n 3) 1 1573 := ⟨by decide +kernel, rfl⟩
theorem iL_law_1573 : am_at 131 1573 (.invokestatic 164) 3 1576 := ⟨by decide +kernel, rfl⟩
theorem cL_law_164 : am_sS 131 164 130 := ⟨wd_653, wd_654, wd_0⟩
theorem iL_law_1576 : am_at 131 1576 (.istore 5) 2 1578 := ⟨by decide +kernel, rfl⟩
theorem iL_law_1578 : am_at 131 1578 (.aload_n 2) 1 1579 := ⟨by decide +kernel, rfl⟩
theorem iL_law_1579 : am_at 131 1579 (.aload_n 0) 1 1580 := ⟨by decide +kernel, rfl⟩
theorem iL_law_1580 : am_at 131 1580 (.iload 4) 2 1582 := ⟨by decide +kernel, rfl⟩
theorem iL_law_1582 : am_at 131 1582 (.iconst 1) 1 1583 := ⟨by decide +kernel, rfl⟩
theorem iL_law_1583 : am_at 131 1583 (.iadd) 1 1584 := ⟨by decide +kernel, rfl⟩
theorem iL_law_1584 : am_at 131 1584 (.iaload) 1 1585 := ⟨by decide +kernel, rfl⟩
theorem iL_law_1585 : am_at 131 1585 (.invokevirtual 166) 3 1588 := ⟨by decide +kernel, rfl⟩
theorem cL_law_166 : am_sV 131 166 110 7 := ⟨wd_974, wd_975, wd_976, rfl, by decide⟩
theorem iL_law_1588 : am_at 131 1588 (.istore 6) 2 1590 := ⟨by decide +kernel, rfl⟩
theorem iL_law_1590 : am_at 131 1590 (.aload_n 2) 1 1591 := ⟨by decide +kernel, rfl⟩
theorem iL_law_1591 : am_at 131 1591 (.invokevirtual 97) 3 1594 := ⟨by decide +kernel, rfl⟩
theorem iL_law_1594 : am_at 131 1594 (.iload 5) 2 1596 := ⟨by decide +kernel, rfl⟩
theorem iL_law_1596 : am_jp 131 1596 (.if_icmp .eq 5) 5 1601 1599 := ⟨by decide +kernel, by decide, rfl⟩
theorem iL_law_1599 : am_at 131 1599 (.iconst 0) 1 1600 := ⟨by decide +kernel, rfl⟩
theorem iL_law_1600 : am_at 131 1600 (.ireturn) 1 1601 := ⟨by decide +kernel, rfl⟩
theorem iL_law_1601 : am_at 131 1601 (.iload 5) 2 1603 := ⟨by decide +kernel, rfl⟩
theorem iL_law_1603 : am_jp 131 1603 (.ifCond .ne 15) 15 1618 1606 := ⟨by decide +kernel, by decide, rfl⟩
theorem iL_law_1606 : am_at 131 1606 (.aload_n 3) 1 1607 := ⟨by decide +kernel, rfl⟩
theorem iL_law_1607 : am_at 131 1607 (.iconst 0) 1 1608 := ⟨by decide +kernel, rfl⟩
theorem iL_law_1608 : am_at 131 1608 (.laload) 1 1609 := ⟨by decide +kernel, rfl⟩
theorem iL_law_1609 : am_at 131 1609 (.iload 6) 2 1611 := ⟨by decide +kernel, rfl⟩
theorem iL_law_1611 : am_at 131 1611 (.i2l) 1 1612 := ⟨by decide +kernel, rfl⟩
theorem iL_law_1612 : am_at 131 1612 (.lcmp) 1 1613 := ⟨by decide +kernel, rfl⟩
theorem iL_law_1613 : am_jp 131 1613 (.ifCond .eq 5) 5 1618 1616 := ⟨by decide +kernel, by decide, rfl⟩
theorem iL_law_1616 : am_at 131 1616 (.iconst 0) 1 1617 := ⟨by decide +kernel, rfl⟩
theorem iL_law_1617 : am_at 131 1617 (.ireturn) 1 1618 := ⟨by decide +kernel, rfl⟩
theorem iL_law_1618 : am_jp 131 1618 (.goto 3) 3 1621 1621 := ⟨by decide +kernel, by decide, rfl⟩
theorem iL_law_1621 : am_at 131 1621 (.iinc 4 8) 3 1624 := ⟨by decide +kernel, rfl⟩
theorem iL_law_1624 : am_jp 131 1624 (.goto (-1581)) (-1581) 43 1627 := ⟨by decide +kernel, by decide, rfl⟩
theorem iL_law_1627 : am_at 131 1627 (.iconst 1) 1 1628 := ⟨by decide +kernel, rfl⟩
theorem iL_law_1628 : am_at 131 1628 (.ireturn) 1 1629 := ⟨by decide +kernel, rfl⟩
end
