section
-- ===== PART A: goes FIRST, ahead of the names: the tables' words, and 'selects' of the private methods out of them =====
/-- a private method of a class that the tables say can be made, by its rows of tables_1 -/
def lw_okq (q : MethodName × Nat) : Prop := (q.1.cls ≠ "java/lang/invoke/MethodHandle" ∧ q.1.cls ≠ "java/lang/invoke/VarHandle") ∧ Cond.instantiable q.1.cls q.2 ∈ tables_1 ∧ Cond.privateMethod q.1 ∈ tables_1 ∧ Cond.instanceMethod q.1 ∈ tables_1
theorem lw_p0 : lw_okq (⟨"java/lang/Throwable", "fillInStackTrace", "(I)Ljava/lang/Throwable;"⟩, 6) := ⟨⟨by decide +kernel, by decide +kernel⟩, List.mem_of_getElem? (i := 191) (by decide +kernel), List.mem_of_getElem? (i := 189) (by decide +kernel), List.mem_of_getElem? (i := 190) (by decide +kernel)⟩
theorem lw_p1 : lw_okq (⟨"StageChip", "emptyStagesBelow", "(I)V"⟩, 17) := ⟨⟨by decide +kernel, by decide +kernel⟩, List.mem_of_getElem? (i := 12) (by decide +kernel), List.mem_of_getElem? (i := 276) (by decide +kernel), List.mem_of_getElem? (i := 277) (by decide +kernel)⟩
theorem lw_p2 : lw_okq (⟨"StageChip", "runCycle", "()V"⟩, 17) := ⟨⟨by decide +kernel, by decide +kernel⟩, List.mem_of_getElem? (i := 12) (by decide +kernel), List.mem_of_getElem? (i := 294) (by decide +kernel), List.mem_of_getElem? (i := 295) (by decide +kernel)⟩
theorem lw_p3 : lw_okq (⟨"StageChip", "leaveEndsCycle", "(LStageChip$Flight;)Z"⟩, 17) := ⟨⟨by decide +kernel, by decide +kernel⟩, List.mem_of_getElem? (i := 12) (by decide +kernel), List.mem_of_getElem? (i := 298) (by decide +kernel), List.mem_of_getElem? (i := 299) (by decide +kernel)⟩
theorem lw_p4 : lw_okq (⟨"StageChip", "takeFault", "(LStageChip$Flight;)V"⟩, 17) := ⟨⟨by decide +kernel, by decide +kernel⟩, List.mem_of_getElem? (i := 12) (by decide +kernel), List.mem_of_getElem? (i := 302) (by decide +kernel), List.mem_of_getElem? (i := 303) (by decide +kernel)⟩
theorem lw_p5 : lw_okq (⟨"StageChip$Flight", "does", "(I)Z"⟩, 8) := ⟨⟨by decide +kernel, by decide +kernel⟩, List.mem_of_getElem? (i := 51) (by decide +kernel), List.mem_of_getElem? (i := 306) (by decide +kernel), List.mem_of_getElem? (i := 307) (by decide +kernel)⟩
theorem lw_p6 : lw_okq (⟨"StageChip", "retire", "(LStageChip$Flight;)V"⟩, 17) := ⟨⟨by decide +kernel, by decide +kernel⟩, List.mem_of_getElem? (i := 12) (by decide +kernel), List.mem_of_getElem? (i := 310) (by decide +kernel), List.mem_of_getElem? (i := 311) (by decide +kernel)⟩
theorem lw_p7 : lw_okq (⟨"StageChip$Flight", "writes", "(I)Z"⟩, 8) := ⟨⟨by decide +kernel, by decide +kernel⟩, List.mem_of_getElem? (i := 51) (by decide +kernel), List.mem_of_getElem? (i := 314) (by decide +kernel), List.mem_of_getElem? (i := 315) (by decide +kernel)⟩
theorem lw_p8 : lw_okq (⟨"StageChip$Instruction", "writesD", "()Z"⟩, 5) := ⟨⟨by decide +kernel, by decide +kernel⟩, List.mem_of_getElem? (i := 20) (by decide +kernel), List.mem_of_getElem? (i := 318) (by decide +kernel), List.mem_of_getElem? (i := 319) (by decide +kernel)⟩
theorem lw_p9 : lw_okq (⟨"StageChip", "passMemory", "(LStageChip$Flight;)V"⟩, 17) := ⟨⟨by decide +kernel, by decide +kernel⟩, List.mem_of_getElem? (i := 12) (by decide +kernel), List.mem_of_getElem? (i := 322) (by decide +kernel), List.mem_of_getElem? (i := 323) (by decide +kernel)⟩
theorem lw_p10 : lw_okq (⟨"StageChip", "moveOnIfFree", "(I)V"⟩, 17) := ⟨⟨by decide +kernel, by decide +kernel⟩, List.mem_of_getElem? (i := 12) (by decide +kernel), List.mem_of_getElem? (i := 326) (by decide +kernel), List.mem_of_getElem? (i := 327) (by decide +kernel)⟩
theorem lw_p11 : lw_okq (⟨"StageChip", "workInReached", "(LStageChip$Flight;)V"⟩, 17) := ⟨⟨by decide +kernel, by decide +kernel⟩, List.mem_of_getElem? (i := 12) (by decide +kernel), List.mem_of_getElem? (i := 330) (by decide +kernel), List.mem_of_getElem? (i := 331) (by decide +kernel)⟩
theorem lw_p12 : lw_okq (⟨"StageChip", "needsLoadAhead", "(LStageChip$Instruction;)Z"⟩, 17) := ⟨⟨by decide +kernel, by decide +kernel⟩, List.mem_of_getElem? (i := 12) (by decide +kernel), List.mem_of_getElem? (i := 334) (by decide +kernel), List.mem_of_getElem? (i := 335) (by decide +kernel)⟩
theorem lw_p13 : lw_okq (⟨"StageChip$Instruction", "usesS", "()Z"⟩, 5) := ⟨⟨by decide +kernel, by decide +kernel⟩, List.mem_of_getElem? (i := 20) (by decide +kernel), List.mem_of_getElem? (i := 338) (by decide +kernel), List.mem_of_getElem? (i := 339) (by decide +kernel)⟩
theorem lw_p14 : lw_okq (⟨"StageChip$Instruction", "usesT", "()Z"⟩, 5) := ⟨⟨by decide +kernel, by decide +kernel⟩, List.mem_of_getElem? (i := 20) (by decide +kernel), List.mem_of_getElem? (i := 342) (by decide +kernel), List.mem_of_getElem? (i := 343) (by decide +kernel)⟩
theorem lw_p15 : lw_okq (⟨"StageChip$Instruction", "isBranch", "()Z"⟩, 5) := ⟨⟨by decide +kernel, by decide +kernel⟩, List.mem_of_getElem? (i := 20) (by decide +kernel), List.mem_of_getElem? (i := 346) (by decide +kernel), List.mem_of_getElem? (i := 347) (by decide +kernel)⟩
def lw_privs_1 : List (MethodName × Nat) := [(⟨"java/lang/Throwable", "fillInStackTrace", "(I)Ljava/lang/Throwable;"⟩, 6), (⟨"StageChip", "emptyStagesBelow", "(I)V"⟩, 17), (⟨"StageChip", "runCycle", "()V"⟩, 17), (⟨"StageChip", "leaveEndsCycle", "(LStageChip$Flight;)Z"⟩, 17), (⟨"StageChip", "takeFault", "(LStageChip$Flight;)V"⟩, 17), (⟨"StageChip$Flight", "does", "(I)Z"⟩, 8), (⟨"StageChip", "retire", "(LStageChip$Flight;)V"⟩, 17), (⟨"StageChip$Flight", "writes", "(I)Z"⟩, 8), (⟨"StageChip$Instruction", "writesD", "()Z"⟩, 5), (⟨"StageChip", "passMemory", "(LStageChip$Flight;)V"⟩, 17), (⟨"StageChip", "moveOnIfFree", "(I)V"⟩, 17), (⟨"StageChip", "workInReached", "(LStageChip$Flight;)V"⟩, 17), (⟨"StageChip", "needsLoadAhead", "(LStageChip$Instruction;)Z"⟩, 17), (⟨"StageChip$Instruction", "usesS", "()Z"⟩, 5), (⟨"StageChip$Instruction", "usesT", "()Z"⟩, 5), (⟨"StageChip$Instruction", "isBranch", "()Z"⟩, 5)]
theorem lw_r1 : ∀ q ∈ lw_privs_1, lw_okq q := List.forall_mem_cons.mpr ⟨lw_p0, List.forall_mem_cons.mpr ⟨lw_p1, List.forall_mem_cons.mpr ⟨lw_p2, List.forall_mem_cons.mpr ⟨lw_p3, List.forall_mem_cons.mpr ⟨lw_p4, List.forall_mem_cons.mpr ⟨lw_p5, List.forall_mem_cons.mpr ⟨lw_p6, List.forall_mem_cons.mpr ⟨lw_p7, List.forall_mem_cons.mpr ⟨lw_p8, List.forall_mem_cons.mpr ⟨lw_p9, List.forall_mem_cons.mpr ⟨lw_p10, List.forall_mem_cons.mpr ⟨lw_p11, List.forall_mem_cons.mpr ⟨lw_p12, List.forall_mem_cons.mpr ⟨lw_p13, List.forall_mem_cons.mpr ⟨lw_p14, List.forall_mem_cons.mpr ⟨lw_p15, fun _ h => absurd h List.not_mem_nil⟩⟩⟩⟩⟩⟩⟩⟩⟩⟩⟩⟩⟩⟩⟩⟩
theorem lw_p16 : lw_okq (⟨"StageChip$Instruction", "workCycles", "()I"⟩, 5) := ⟨⟨by decide +kernel, by decide +kernel⟩, List.mem_of_getElem? (i := 20) (by decide +kernel), List.mem_of_getElem? (i := 351) (by decide +kernel), List.mem_of_getElem? (i := 352) (by decide +kernel)⟩
theorem lw_p17 : lw_okq (⟨"StageChip", "finishWork", "(LStageChip$Flight;)V"⟩, 17) := ⟨⟨by decide +kernel, by decide +kernel⟩, List.mem_of_getElem? (i := 12) (by decide +kernel), List.mem_of_getElem? (i := 355) (by decide +kernel), List.mem_of_getElem? (i := 356) (by decide +kernel)⟩
theorem lw_p18 : lw_okq (⟨"StageChip", "handedOn", "(I)I"⟩, 17) := ⟨⟨by decide +kernel, by decide +kernel⟩, List.mem_of_getElem? (i := 12) (by decide +kernel), List.mem_of_getElem? (i := 359) (by decide +kernel), List.mem_of_getElem? (i := 360) (by decide +kernel)⟩
theorem lw_p19 : lw_okq (⟨"StageChip$Instruction", "touchesData", "()Z"⟩, 5) := ⟨⟨by decide +kernel, by decide +kernel⟩, List.mem_of_getElem? (i := 20) (by decide +kernel), List.mem_of_getElem? (i := 366) (by decide +kernel), List.mem_of_getElem? (i := 367) (by decide +kernel)⟩
theorem lw_p20 : lw_okq (⟨"StageChip", "learn", "(IZ)V"⟩, 17) := ⟨⟨by decide +kernel, by decide +kernel⟩, List.mem_of_getElem? (i := 12) (by decide +kernel), List.mem_of_getElem? (i := 380) (by decide +kernel), List.mem_of_getElem? (i := 381) (by decide +kernel)⟩
theorem lw_p21 : lw_okq (⟨"StageChip", "holdAgainstGuess", "(LStageChip$Flight;I)V"⟩, 17) := ⟨⟨by decide +kernel, by decide +kernel⟩, List.mem_of_getElem? (i := 12) (by decide +kernel), List.mem_of_getElem? (i := 396) (by decide +kernel), List.mem_of_getElem? (i := 397) (by decide +kernel)⟩
theorem lw_p22 : lw_okq (⟨"StageChip", "fetchIfFree", "(LStageChip$Flight;)V"⟩, 17) := ⟨⟨by decide +kernel, by decide +kernel⟩, List.mem_of_getElem? (i := 12) (by decide +kernel), List.mem_of_getElem? (i := 400) (by decide +kernel), List.mem_of_getElem? (i := 401) (by decide +kernel)⟩
theorem lw_p23 : lw_okq (⟨"StageChip", "guessNext", "(LStageChip$Instruction;I)I"⟩, 17) := ⟨⟨by decide +kernel, by decide +kernel⟩, List.mem_of_getElem? (i := 12) (by decide +kernel), List.mem_of_getElem? (i := 404) (by decide +kernel), List.mem_of_getElem? (i := 405) (by decide +kernel)⟩
theorem lw_p24 : lw_okq (⟨"StageChipModel", "out", "(III)Z"⟩, 33) := ⟨⟨by decide +kernel, by decide +kernel⟩, List.mem_of_getElem? (i := 437) (by decide +kernel), List.mem_of_getElem? (i := 552) (by decide +kernel), List.mem_of_getElem? (i := 553) (by decide +kernel)⟩
theorem lw_p25 : lw_okq (⟨"StageChipModel", "empty", "()V"⟩, 33) := ⟨⟨by decide +kernel, by decide +kernel⟩, List.mem_of_getElem? (i := 437) (by decide +kernel), List.mem_of_getElem? (i := 579) (by decide +kernel), List.mem_of_getElem? (i := 580) (by decide +kernel)⟩
theorem lw_p26 : lw_okq (⟨"StageChipModel", "cycle", "()V"⟩, 33) := ⟨⟨by decide +kernel, by decide +kernel⟩, List.mem_of_getElem? (i := 437) (by decide +kernel), List.mem_of_getElem? (i := 591) (by decide +kernel), List.mem_of_getElem? (i := 592) (by decide +kernel)⟩
theorem lw_p27 : lw_okq (⟨"StageChipModel", "leave", "()Z"⟩, 33) := ⟨⟨by decide +kernel, by decide +kernel⟩, List.mem_of_getElem? (i := 437) (by decide +kernel), List.mem_of_getElem? (i := 595) (by decide +kernel), List.mem_of_getElem? (i := 596) (by decide +kernel)⟩
theorem lw_p28 : lw_okq (⟨"StageChipModel", "remember", "()V"⟩, 33) := ⟨⟨by decide +kernel, by decide +kernel⟩, List.mem_of_getElem? (i := 437) (by decide +kernel), List.mem_of_getElem? (i := 602) (by decide +kernel), List.mem_of_getElem? (i := 603) (by decide +kernel)⟩
theorem lw_p29 : lw_okq (⟨"StageChipModel", "move", "(I)V"⟩, 33) := ⟨⟨by decide +kernel, by decide +kernel⟩, List.mem_of_getElem? (i := 437) (by decide +kernel), List.mem_of_getElem? (i := 606) (by decide +kernel), List.mem_of_getElem? (i := 607) (by decide +kernel)⟩
theorem lw_p30 : lw_okq (⟨"StageChipModel", "reach", "(I)V"⟩, 33) := ⟨⟨by decide +kernel, by decide +kernel⟩, List.mem_of_getElem? (i := 437) (by decide +kernel), List.mem_of_getElem? (i := 610) (by decide +kernel), List.mem_of_getElem? (i := 611) (by decide +kernel)⟩
theorem lw_p31 : lw_okq (⟨"StageChipModel", "work", "()I"⟩, 33) := ⟨⟨by decide +kernel, by decide +kernel⟩, List.mem_of_getElem? (i := 437) (by decide +kernel), List.mem_of_getElem? (i := 620) (by decide +kernel), List.mem_of_getElem? (i := 621) (by decide +kernel)⟩
def lw_privs_2 : List (MethodName × Nat) := [(⟨"StageChip$Instruction", "workCycles", "()I"⟩, 5), (⟨"StageChip", "finishWork", "(LStageChip$Flight;)V"⟩, 17), (⟨"StageChip", "handedOn", "(I)I"⟩, 17), (⟨"StageChip$Instruction", "touchesData", "()Z"⟩, 5), (⟨"StageChip", "learn", "(IZ)V"⟩, 17), (⟨"StageChip", "holdAgainstGuess", "(LStageChip$Flight;I)V"⟩, 17), (⟨"StageChip", "fetchIfFree", "(LStageChip$Flight;)V"⟩, 17), (⟨"StageChip", "guessNext", "(LStageChip$Instruction;I)I"⟩, 17), (⟨"StageChipModel", "out", "(III)Z"⟩, 33), (⟨"StageChipModel", "empty", "()V"⟩, 33), (⟨"StageChipModel", "cycle", "()V"⟩, 33), (⟨"StageChipModel", "leave", "()Z"⟩, 33), (⟨"StageChipModel", "remember", "()V"⟩, 33), (⟨"StageChipModel", "move", "(I)V"⟩, 33), (⟨"StageChipModel", "reach", "(I)V"⟩, 33), (⟨"StageChipModel", "work", "()I"⟩, 33)]
theorem lw_r2 : ∀ q ∈ lw_privs_2, lw_okq q := List.forall_mem_cons.mpr ⟨lw_p16, List.forall_mem_cons.mpr ⟨lw_p17, List.forall_mem_cons.mpr ⟨lw_p18, List.forall_mem_cons.mpr ⟨lw_p19, List.forall_mem_cons.mpr ⟨lw_p20, List.forall_mem_cons.mpr ⟨lw_p21, List.forall_mem_cons.mpr ⟨lw_p22, List.forall_mem_cons.mpr ⟨lw_p23, List.forall_mem_cons.mpr ⟨lw_p24, List.forall_mem_cons.mpr ⟨lw_p25, List.forall_mem_cons.mpr ⟨lw_p26, List.forall_mem_cons.mpr ⟨lw_p27, List.forall_mem_cons.mpr ⟨lw_p28, List.forall_mem_cons.mpr ⟨lw_p29, List.forall_mem_cons.mpr ⟨lw_p30, List.forall_mem_cons.mpr ⟨lw_p31, fun _ h => absurd h List.not_mem_nil⟩⟩⟩⟩⟩⟩⟩⟩⟩⟩⟩⟩⟩⟩⟩⟩
theorem lw_p32 : lw_okq (⟨"StageChipModel", "read", "(I)I"⟩, 33) := ⟨⟨by decide +kernel, by decide +kernel⟩, List.mem_of_getElem? (i := 437) (by decide +kernel), List.mem_of_getElem? (i := 624) (by decide +kernel), List.mem_of_getElem? (i := 625) (by decide +kernel)⟩
theorem lw_p33 : lw_okq (⟨"StageChipModel", "fetch", "()V"⟩, 33) := ⟨⟨by decide +kernel, by decide +kernel⟩, List.mem_of_getElem? (i := 437) (by decide +kernel), List.mem_of_getElem? (i := 631) (by decide +kernel), List.mem_of_getElem? (i := 632) (by decide +kernel)⟩
def lw_privs_3 : List (MethodName × Nat) := [(⟨"StageChipModel", "read", "(I)I"⟩, 33), (⟨"StageChipModel", "fetch", "()V"⟩, 33)]
theorem lw_r3 : ∀ q ∈ lw_privs_3, lw_okq q := List.forall_mem_cons.mpr ⟨lw_p32, List.forall_mem_cons.mpr ⟨lw_p33, fun _ h => absurd h List.not_mem_nil⟩⟩
def lw_privs : List (MethodName × Nat) := lw_privs_1 ++ (lw_privs_2 ++ (lw_privs_3))
def lw_tbl : List Cond := k2_sels lw_privs ++ tables_1
theorem lw_privs_ok : ∀ q ∈ lw_privs, lw_okq q := by
  show ∀ q ∈ lw_privs_1 ++ (lw_privs_2 ++ (lw_privs_3)), lw_okq q
  exact List.forall_mem_append.mpr ⟨lw_r1, List.forall_mem_append.mpr ⟨lw_r2, lw_r3⟩⟩
end
section
/-! ===== BEGIN words of one list among another's, by their places ===== -/
theorem goodIn_r {big : List Cond} (ws : List Cond) (ps : List Nat) (hp : ws = ps.filterMap (fun i => big[i]?)) (h : ws.all goodWord = true) : GoodIn big ws := by
  intro w hw
  have h1 := List.all_eq_true.mp h w hw
  rw [hp] at hw
  obtain ⟨i, -, hi⟩ := List.mem_filterMap.mp hw
  have hm : w ∈ big := by first | exact List.mem_of_getElem? hi | exact List.getElem?_mem hi
  exact ⟨hm, good_of_word h1⟩
theorem goodIn_app {big a b : List Cond} (ha : GoodIn big a) (hb : GoodIn big b) : GoodIn big (a ++ b) := fun w h => (List.mem_append.mp h).elim (ha w) (hb w)
theorem goodIn_ca {big a b : List Cond} {c : Cond} (ha : GoodIn big (c :: a)) (hb : GoodIn big b) : GoodIn big (c :: (a ++ b)) := fun w h => (List.mem_cons.mp h).elim (fun e => ha w (List.mem_cons.mpr (Or.inl e))) (fun h => (List.mem_append.mp h).elim (fun h => ha w (List.mem_cons.mpr (Or.inr h))) (hb w))
theorem goodIn_sub {big ws : List Cond} (hm : ∀ w ∈ ws, w ∈ big) (h : ws.all goodWord = true) : GoodIn big ws := fun w hw => ⟨hm w hw, good_of_word (List.all_eq_true.mp h w hw)⟩
/-! ===== END ===== -/

/-! ===== BEGIN exceptions that leave a method, and their catching by the caller (launches without stack traces) ===== -/
section VXA
/-! The laws vx_back, vx_callV, vx_callS, vx_callSW, vx_throw0, vx_throwS follow proofs of the library, with one case more: JvmDerived/Free/Laws.lean (Back.of_free), Shelf42/LK1.lean (callV, callS), Shelf/KitTraced.lean (throwNew0V, throwNewS). -/
/-- where a method has thrown q: the class by its name, the cell, what was written, the world -/
def vx_T (XC : String → State → State → Prop) (st : State) (q : Addr) (t : State) (mc ms : Nat) (free : Addr → Prop) : Prop :=
  ∃ (E : String) (ce : Cell) (L : List Loc), XC E st t ∧ t.heap[q]? = some ce ∧ ce.vm = .none ∧ st.vm.findClass E = some ce.cls ∧ st.WarmedH t.vm ∧ st.sameButNew ({ t with vm := st.vm } : State) L mc ms ∧ ∀ z ∈ L, free z.base
def vx_Q (Qc : Array Value → State → Outcome → State → Prop) (XC : String → State → State → Prop) (mc ms : Nat) (free : Addr → Prop) : Array Value → State → Outcome → State → Prop := fun a st o t =>
  (Qc a st o t ∧ ∃ L, FrameEnd st o t L mc ms ∧ ∀ q ∈ L, free q.base) ∨ ∃ q, o = .threw q ∧ vx_T XC st q t mc ms free
/-- a callee that returns or throws -/
def vx_Met (l : Launch) (y : MethodName) (ws : List Cond) (rm : Room) (Pc : Array Value → State → Prop) (Qc : Array Value → State → Outcome → State → Prop) (XC : String → State → State → Prop) (mc ms : Nat) (free : Addr → Prop) : Prop :=
  MetFree l y (headSpec ws rm) Pc (fun _ _ _ _ _ => True) (vx_Q Qc XC mc ms free)
def vx_Post (XC : String → State → State → Prop) (mc ms : Nat) (free : Addr → Prop) : Pt → Array Value → Addr → Pt → Prop := fun A a q B =>
  ∃ (g : JFrame) (mk : MethodId) (t : State) (L : List Loc) (E : String) (ce : Cell), B.U.heap = t.heap ∧ B.U.vm = t.vm ∧ XC E (A.U.calling g mk a) t ∧ t.heap[q]? = some ce ∧ ce.vm = .none ∧ A.U.vm.findClass E = some ce.cls ∧ B.locs = A.locs ++ L ∧ (∀ z ∈ L, free z.base) ∧ B.cells = A.cells + mc ∧ B.slots = A.slots + ms
def vx_Back (l : Launch) (R : Room) (p : Program) (e : Env) (below : List Frame) (s : State) (sargs : Array Value) (y : MethodName) (len W9 : Nat)
    (Pre : Pt → Array Value → Prop) (Post : Pt → Array Value → Option Value → Pt → Prop) (PostX : Pt → Array Value → Addr → Pt → Prop) : Prop :=
  ∀ (m : MethodId) (meth : Method) (c : Code) (A : Pt) (g : JFrame) (ig : Instr) (mk : MethodId) (a : Array Value),
    Stand p l e R s m sargs below meth c A.U A.locs A.cells A.slots → g.method = m → g.locals.size = c.maxLocals → decode c.code g.pc = .ok (ig, len) →
    2 * g.monitorRoom + (g.stack.map fun v => v.category).sum ≤ W9 → A.U.methodNamed? y = some mk → Pre A a →
    (∃ (v : Option Value) (B : Pt), Stand p l e R s m sargs below meth c B.U B.locs B.cells B.slots ∧ Post A a v B ∧
      Steps p.tables e below (doInvoke e (A.U.setTop g) [] mk a).1 (B.U.setTop { g with pc := g.pc + len, stack := v.toList ++ g.stack })) ∨
    (∃ (q : Addr) (B : Pt), Stand p l e R s m sargs below meth c B.U B.locs B.cells B.slots ∧ PostX A a q B ∧
      Steps p.tables e below (doInvoke e (A.U.setTop g) [] mk a).1 ((B.U.setTop g).pushFrame (.throwing q)))
section Payer
variable {l : Launch} {R : Room} {p : Program} {e : Env} {below : List Frame} {s : State} {sargs : Array Value} {y : MethodName} {len W9 : Nat}
theorem vx_back {ws : List Cond} {rm : Room} {Pc : Array Value → State → Prop} {Qc : Array Value → State → Outcome → State → Prop} {XC : String → State → State → Prop} {mc ms : Nat} {free : Addr → Prop} {bytes : ByteArray} {maxL : Nat} {ret : Option FieldType}
    (hM : vx_Met l y ws rm Pc Qc XC mc ms free) (hblind : FrameBlind Pc) (hrc : rm.cells = mc) (hrs : rm.slots = ms)
    (hframes : rm.frames + 1 ≤ R.frames) (hlocals : W9 + (maxL + 11) + rm.locals ≤ R.locals)
    (hws : ∀ w ∈ ws, ∀ a' U, s.WarmedH U.vm → w.before a' U = true) (hcode : Cond.code y bytes maxL ret ∈ ws) (hinit : ∀ a' U, s.WarmedH U.vm → (Cond.initialized y.cls).before a' U = true) :
    vx_Back l R p e below s sargs y len W9 (PreOf R mc ms Pc) (PostOf Qc mc ms free) (vx_Post XC mc ms free) := by
  intro m meth c A g ig mk a X hg hsize hdg hW hn hp
  have h1 : (headSpec ws rm).pre.before a A.U = true := atoms_intro fun w hw => hws w hw _ _ X.warmed
  have h2 : (Cond.code y bytes maxL ret).before a A.U = true := hws _ hcode _ _ X.warmed
  have h3 : (Cond.initialized y.cls).before a A.U = true := hinit _ _ X.warmed
  have h4 : A.cells + (headSpec ws rm).room.cells ≤ R.cells := by rw [show (headSpec ws rm).room.cells = mc from hrc]; exact hp.1
  have h5 : A.slots + (headSpec ws rm).room.slots ≤ R.slots := by rw [show (headSpec ws rm).room.slots = ms from hrs]; exact hp.2.1
  have hPc : Pc a (A.U.calling g mk a) := hblind _ _ _ _ hp.2.2
  obtain ⟨U, Ls, c0, s0⟩ := A
  dsimp only [Pt.U, Pt.locs, Pt.cells, Pt.slots] at h1 h2 h3 h4 h5 X hn hPc ⊢
  obtain ⟨methY, cY, hmY, hcY, -, hlY, -, -, -, -⟩ := Cond.code_spec hn h2
  obtain ⟨kY, hkY, -⟩ := className_of_methodNamed hn
  have hinitY : kY.init = .initialized := Cond.initialized_spec (findClass_of_methodNamed hn) hkY h3
  have h : At U g.method c below := by rw [hg]; exact X.here
  have hlocals9 : W9 + (maxL + 11) + (headSpec ws rm).room.locals ≤ R.locals := hlocals
  have happ : (headSpec ws rm).appliesLoose y e.platform (U.calling g mk a) = true :=
    Spec.appliesLoose_calling (g := g) h hdg hn hkY hinitY
      (X.room_calling (g := g) (R' := (headSpec ws rm).room) hsize hmY hcY hframes (by rw [hlY]; omega) h4 h5) h1
  obtain ⟨mid, hmid⟩ := h.above
  have hfr : (U.setTop g).frames = (.java g :: mid) ++ below := by rw [State.frames_setTop' g h.top, hmid]; rfl
  obtain ⟨o, s₂, hsteps, -, hend, hq⟩ := Steps.callFree hM p X.admits X.cas X.clock (acts := []) hfr happ hPc trivial
  have hq' : vx_Q Qc XC mc ms free a (U.calling g mk a) o s₂ := hq
  rw [State.frames_setTop' g h.top] at hend
  obtain ⟨g₀, hg0⟩ := Option.isSome_iff_exists.mp h.top
  obtain ⟨r, hr⟩ := State.topJava?_eq_some.mp hg0
  have hr' : (({ U with heap := s₂.heap, slotsUsed := s₂.slotsUsed } : State).setVm s₂.vm).frames = .java g₀ :: r := hr
  rcases hq' with ⟨hqc, L, hfe, hL⟩ | ⟨q, rfl, E, ce, L, hx, hce, hcv, hcl, hW₂, hsm, hL⟩
  · obtain ⟨⟨v, rfl⟩, hW₂, e2, q2, q3, q4, q5, q6⟩ := id hfe
    have e3 : s₂ = ({ (U.calling g mk a).setFrames s₂.frames with heap := s₂.heap, slotsUsed := s₂.slotsUsed } : State).setVm s₂.vm := by
      have : s₂ = ({ s₂ with vm := (U.calling g mk a).vm } : State).setVm s₂.vm := rfl
      rw [e2] at this
      exact this
    obtain ⟨c₂, i₂, len₂, hc₂, hd₂, hf₂⟩ := hend
    have hW' : U.WarmedH s₂.vm := hW₂
    have hcc : c₂ = c := by
      have h1 : s₂.code? g.method = U.code? g.method := by
        rw [State.code?_eq, State.code?_eq, hW'.alike.method?]
      exact Option.some.inj (hc₂.symm.trans (h1.trans h.code))
    subst hcc
    have hlen : len₂ = len := by rw [hdg] at hd₂; cases hd₂; rfl
    subst hlen
    have hs₂ : s₂ = (({ U with heap := s₂.heap, slotsUsed := s₂.slotsUsed } : State).setVm s₂.vm).setTop { g with pc := g.pc + len₂, stack := v.toList ++ g.stack } := by
      refine e3.trans ?_
      rw [hf₂, State.calling_eq h.top, State.setFrames_setFrames, State.setTop_of_frames _ hr', hr]
      rfl
    have hsame : U.sameButNew ({ U with heap := s₂.heap, slotsUsed := s₂.slotsUsed } : State) L mc ms := by
      refine ⟨?_, q2, q3, q4, q5, q6⟩
      obtain ⟨t, ht, -⟩ := State.frames_cons hr
      show ({ U with heap := s₂.heap, slotsUsed := s₂.slotsUsed } : State) = { U.setFrames U.frames with heap := s₂.heap, slotsUsed := s₂.slotsUsed }
      rw [State.setFrames_self ht]
    subst hg
    refine Or.inl ⟨v, ⟨(({ U with heap := s₂.heap, slotsUsed := s₂.slotsUsed } : State).setVm s₂.vm), Ls ++ L, c0 + mc, s0 + ms⟩,
      ⟨X.admits, X.cas, X.clock, X.frames, X.room, X.hears, X.method, X.code, (X.here.setHeapUsed s₂.heap s₂.slotsUsed).setVm hW'.alike, X.tail, State.WarmedH.trans X.warmed hW', X.limits, X.bytes, X.same.trans (hsame.setVm s.vm)⟩,
      ⟨g, mk, s₂, L, rfl, rfl, hqc, rfl, hL, rfl, rfl⟩, ?_⟩
    show Steps p.tables e below _ ((({ U with heap := s₂.heap, slotsUsed := s₂.slotsUsed } : State).setVm s₂.vm).setTop { g with pc := g.pc + len₂, stack := v.toList ++ g.stack })
    rw [← hs₂]
    exact hsteps
  · obtain ⟨e2, q2, q3, q4, q5, q6⟩ := id hsm
    have e3 : s₂ = ({ (U.calling g mk a).setFrames s₂.frames with heap := s₂.heap, slotsUsed := s₂.slotsUsed } : State).setVm s₂.vm := by
      have : s₂ = ({ s₂ with vm := (U.calling g mk a).vm } : State).setVm s₂.vm := rfl
      rw [e2] at this
      exact this
    have hf₂ : s₂.frames = .throwing q :: .java g :: U.frames.tail := hend
    have hW' : U.WarmedH s₂.vm := hW₂
    have hs₂ : s₂ = ((({ U with heap := s₂.heap, slotsUsed := s₂.slotsUsed } : State).setVm s₂.vm).setTop g).pushFrame (.throwing q) := by
      refine e3.trans ?_
      rw [hf₂, State.calling_eq h.top, State.setFrames_setFrames, State.pushFrame, State.frames_setTop _ hr', State.setTop_of_frames _ hr', State.setFrames_setFrames, hr]
      rfl
    have hsame : U.sameButNew ({ U with heap := s₂.heap, slotsUsed := s₂.slotsUsed } : State) L mc ms := by
      refine ⟨?_, q2, q3, q4, q5, q6⟩
      obtain ⟨t, ht, -⟩ := State.frames_cons hr
      show ({ U with heap := s₂.heap, slotsUsed := s₂.slotsUsed } : State) = { U.setFrames U.frames with heap := s₂.heap, slotsUsed := s₂.slotsUsed }
      rw [State.setFrames_self ht]
    subst hg
    refine Or.inr ⟨q, ⟨(({ U with heap := s₂.heap, slotsUsed := s₂.slotsUsed } : State).setVm s₂.vm), Ls ++ L, c0 + mc, s0 + ms⟩,
      ⟨X.admits, X.cas, X.clock, X.frames, X.room, X.hears, X.method, X.code, (X.here.setHeapUsed s₂.heap s₂.slotsUsed).setVm hW'.alike, X.tail, State.WarmedH.trans X.warmed hW', X.limits, X.bytes, X.same.trans (hsame.setVm s.vm)⟩,
      ⟨g, mk, s₂, L, E, ce, rfl, rfl, hx, hce, hcv, hcl, rfl, hL, rfl, rfl⟩, ?_⟩
    show Steps p.tables e below _ (((({ U with heap := s₂.heap, slotsUsed := s₂.slotsUsed } : State).setVm s₂.vm).setTop g).pushFrame (.throwing q))
    rw [← hs₂]
    exact hsteps
end Payer
section Calls
variable {p : Program} {l : Launch} {e : Env} {R : Room} {s : State} {m : MethodId} {args : Array Value} {below : List Frame} {meth : Method} {c : Code} {T : State} {locs : List Loc} {cells slots : Nat}
theorem vx_callV (X : Stand p l e R s m args below meth c T locs cells slots) (hexec : p.tables.exec = Jvm.exec) {own C : String} {index : Nat} {y : MethodName} {bytes : ByteArray} {maxL : Nat} {ret : Option FieldType}
    (hown : s.vm.findClass own = some m.cls) (hlink : (Cond.methodLink own index y).before args s = true) (hinst : (Cond.instanceMethod y).before args s = true) (hsel : (Cond.selects C y y).before args s = true)
    (hcode : (Cond.code y bytes maxL ret).before args s = true) (hy : y.cls ≠ "java/lang/invoke/MethodHandle" ∧ y.cls ≠ "java/lang/invoke/VarHandle")
    {W9 : Nat} {Pre : Pt → Array Value → Prop} {Post : Pt → Array Value → Option Value → Pt → Prop} {PostX : Pt → Array Value → Addr → Pt → Prop} (hK : vx_Back l R p e below s args y 3 W9 Pre Post PostX)
    {b : Addr} {cellB : Cell} (hcell : T.heap[b]? = some cellB) (hobj : cellB.vm.isStatics = false) (hcls : s.vm.findClass C = some cellB.cls)
    {g : JFrame} (hg : g.method = m) (hsize : g.locals.size = c.maxLocals) {argsL rest : List Value} (hlen : ∀ sig, parseMethodDescriptor y.desc = some sig → argsL.length = sig.parameters.length)
    (hstack : g.stack = argsL.reverse ++ .ref b :: rest) (hW : 2 * g.monitorRoom + (rest.map fun v => v.category).sum ≤ W9) (hdg : decode c.code g.pc = .ok (.invokevirtual index, 3))
    (hpre : ∀ vm₁, s.WarmedH vm₁ → Pre ⟨T.setVm vm₁, locs, cells, slots⟩ (Value.ref b :: argsL).toArray) :
    (∃ (v : Option Value) (vm₁ : Vm) (B : Pt), s.WarmedH vm₁ ∧ Stand p l e R s m args below meth c B.U B.locs B.cells B.slots ∧ Post ⟨T.setVm vm₁, locs, cells, slots⟩ (Value.ref b :: argsL).toArray v B ∧
      ∀ target, Steps p.tables e below (B.U.setTop { g with pc := g.pc + 3, stack := v.toList ++ rest }) target → Steps p.tables e below (T.setTop g) target) ∨
    (∃ (q : Addr) (vm₁ : Vm) (B : Pt), s.WarmedH vm₁ ∧ Stand p l e R s m args below meth c B.U B.locs B.cells B.slots ∧ PostX ⟨T.setVm vm₁, locs, cells, slots⟩ (Value.ref b :: argsL).toArray q B ∧
      Steps p.tables e below (T.setTop g) ((B.U.setTop { g with stack := rest }).pushFrame (.throwing q))) := by
  obtain ⟨mk, methM, hnamed, hmethM, hstM, habM⟩ := Cond.instanceMethod_spec hinst
  obtain ⟨methM', cM, hmethM', -, -, -, -, -, -, hsigM⟩ := Cond.code_spec hnamed hcode
  cases hmethM.symm.trans hmethM'
  obtain ⟨c2, r2, m2, q1, q2, q3, q4, kP, hkP, hkPi⟩ := Cond.selects_spec hsel
  cases hcls.symm.trans q1
  cases (State.methodFound?_of_named hnamed hy).symm.trans q2
  cases hnamed.symm.trans q3
  have hselP : selectMethod e.platform s.vm cellB.cls mk = .method mk := by rw [Launch.admits_selectMethod X.admits]; exact q4
  obtain ⟨vm₁, X₁, hstep₁⟩ := X.invokevirtual hexec hown hlink hnamed hmethM hstM hkP hkPi hy (a := b) (cell := cellB) hcell
    (fun z h => by rw [h] at hobj; cases hobj) hselP hmethM habM hkP hkPi (g := g) hg (argsL := argsL) (rest := rest) (hlen _ hsigM) hstack hdg
  rcases hK m meth c ⟨T.setVm vm₁, locs, cells, slots⟩ { g with stack := rest } (.invokevirtual index) mk (Value.ref b :: argsL).toArray X₁ hg hsize hdg hW (X₁.named hnamed) (hpre vm₁ X₁.warmed) with ⟨v, B, X', hpost, hsteps⟩ | ⟨q, B, X', hpost, hsteps⟩
  · exact Or.inl ⟨v, vm₁, B, X₁.warmed, X', hpost, fun target h => hstep₁ _ fun acts => by rw [doInvoke_state]; exact hsteps.trans h⟩
  · exact Or.inr ⟨q, vm₁, B, X₁.warmed, X', hpost, hstep₁ _ fun acts => by rw [doInvoke_state]; exact hsteps⟩
theorem vx_callS (X : Stand p l e R s m args below meth c T locs cells slots) (hexec : p.tables.exec = Jvm.exec) {own : String} {index : Nat} {y : MethodName} {bytes : ByteArray} {maxL : Nat} {ret : Option FieldType}
    (hown : s.vm.findClass own = some m.cls) (hlink : (Cond.methodLink own index y).before args s = true) (hstat : (Cond.static y).before args s = true) (hinit : (Cond.initialized y.cls).before args s = true)
    (hcode : (Cond.code y bytes maxL ret).before args s = true) (hy : y.cls ≠ "java/lang/invoke/MethodHandle" ∧ y.cls ≠ "java/lang/invoke/VarHandle")
    {W9 : Nat} {Pre : Pt → Array Value → Prop} {Post : Pt → Array Value → Option Value → Pt → Prop} {PostX : Pt → Array Value → Addr → Pt → Prop} (hK : vx_Back l R p e below s args y 3 W9 Pre Post PostX)
    {g : JFrame} (hg : g.method = m) (hsize : g.locals.size = c.maxLocals) {argsL rest : List Value} (hlen : ∀ sig, parseMethodDescriptor y.desc = some sig → argsL.length = sig.parameters.length)
    (hstack : g.stack = argsL.reverse ++ rest) (hW : 2 * g.monitorRoom + (rest.map fun v => v.category).sum ≤ W9) (hdg : decode c.code g.pc = .ok (.invokestatic index, 3))
    (hpre : ∀ vm₁, s.WarmedH vm₁ → Pre ⟨T.setVm vm₁, locs, cells, slots⟩ argsL.toArray) :
    (∃ (v : Option Value) (vm₁ : Vm) (B : Pt), s.WarmedH vm₁ ∧ Stand p l e R s m args below meth c B.U B.locs B.cells B.slots ∧ Post ⟨T.setVm vm₁, locs, cells, slots⟩ argsL.toArray v B ∧
      ∀ target, Steps p.tables e below (B.U.setTop { g with pc := g.pc + 3, stack := v.toList ++ rest }) target → Steps p.tables e below (T.setTop g) target) ∨
    (∃ (q : Addr) (vm₁ : Vm) (B : Pt), s.WarmedH vm₁ ∧ Stand p l e R s m args below meth c B.U B.locs B.cells B.slots ∧ PostX ⟨T.setVm vm₁, locs, cells, slots⟩ argsL.toArray q B ∧
      Steps p.tables e below (T.setTop g) ((B.U.setTop { g with stack := rest }).pushFrame (.throwing q))) := by
  obtain ⟨mk, hnamed⟩ := Cond.code_named hcode
  obtain ⟨methM, cM, hmethM, -, -, -, -, -, -, hsigM⟩ := Cond.code_spec hnamed hcode
  have hstatic : methM.isStatic = true := Cond.static_spec hnamed hmethM hstat
  obtain ⟨kP, hkP, -⟩ := className_of_methodNamed hnamed
  have hinitP : kP.init = .initialized := Cond.initialized_spec (findClass_of_methodNamed hnamed) hkP hinit
  obtain ⟨vm₁, X₁, hstep₁⟩ := X.invokestatic hexec hown hlink hnamed hmethM hstatic hkP hinitP hy (g := g) hg (argsL := argsL) (rest := rest) (hlen _ hsigM) hstack hdg
  rcases hK m meth c ⟨T.setVm vm₁, locs, cells, slots⟩ { g with stack := rest } (.invokestatic index) mk argsL.toArray X₁ hg hsize hdg hW (X₁.named hnamed) (hpre vm₁ X₁.warmed) with ⟨v, B, X', hpost, hsteps⟩ | ⟨q, B, X', hpost, hsteps⟩
  · exact Or.inl ⟨v, vm₁, B, X₁.warmed, X', hpost, fun target h => hstep₁ _ fun acts => by rw [doInvoke_state]; exact hsteps.trans h⟩
  · exact Or.inr ⟨q, vm₁, B, X₁.warmed, X', hpost, hstep₁ _ fun acts => by rw [doInvoke_state]; exact hsteps⟩
end Calls
theorem vx_cls {s : State} {T : State} {vm₁ : Vm} {E : String} {k : ClassId} (hW : s.WarmedH vm₁) (h : (T.setVm vm₁).vm.findClass E = some k) : s.vm.findClass E = some k := by
  have h1 : vm₁.findClass E = some k := h
  rw [hW.alike.findClass] at h1
  exact h1
/-- the method's frame g, with q thrown over it -/
def vx_W (p : Program) (l : Launch) (e : Env) (R : Room) (s : State) (m : MethodId) (args : Array Value) (below : List Frame) (meth : Method) (c : Code) (H : Heap) (locs : List Loc) (cells slots : Nat) (Q : State → Prop) (g : JFrame) (q : Addr) : Prop :=
  ∀ T : State, T.heap = H → Stand p l e R s m args below meth c T locs cells slots → ∃ t, Steps p.tables e below ((T.setTop g).pushFrame (.throwing q)) t ∧ Q t
def vx_Run (p : Program) (l : Launch) (e : Env) (R : Room) (s : State) (m : MethodId) (args : Array Value) (below : List Frame) (meth : Method) (c : Code) (H : Heap) (locs : List Loc) (cells slots mc ms : Nat) (g : JFrame) (rest : List Value) (Qa : State → Outcome → State → Prop) (XC : String → State → State → Prop) (free : Addr → Prop) : Prop :=
  ∀ T : State, T.heap = H → Stand p l e R s m args below meth c T locs cells slots →
    (∃ (v : Option Value) (st₀ t T' : State) (L : List Loc), st₀.heap = H ∧ Stand p l e R s m args below meth c T' (locs ++ L) (cells + mc) (slots + ms) ∧ (∀ q ∈ L, free q.base) ∧ T'.heap = t.heap ∧ T'.vm = t.vm ∧ Qa st₀ (.returned v) t ∧
      Goes p e below T g T' { g with pc := g.pc + 3, stack := v.toList ++ rest }) ∨
    (∃ (q : Addr) (st₀ t T' : State) (L : List Loc) (E : String) (ce : Cell), st₀.heap = H ∧ Stand p l e R s m args below meth c T' (locs ++ L) (cells + mc) (slots + ms) ∧ (∀ z ∈ L, free z.base) ∧ T'.heap = t.heap ∧ T'.vm = t.vm ∧ XC E st₀ t ∧ t.heap[q]? = some ce ∧ ce.vm = .none ∧ s.vm.findClass E = some ce.cls ∧
      Steps p.tables e below (T.setTop g) ((T'.setTop { g with stack := rest }).pushFrame (.throwing q)))
def vx_X {S : Type} (px : S → Prop) (B : String → S → State → Prop) (A : Nat → Prop) : String → State → State → Prop := fun E st t => ∃ u : S, px u ∧ B E u t ∧ va_F A st t
section Runs
variable {p : Program} {l : Launch} {e : Env} {R : Room} {s : State} {m : MethodId} {args : Array Value} {below : List Frame} {meth : Method} {c : Code} {H : Heap} {locs : List Loc} {cells slots : Nat}
variable {y : MethodName} {bytes cc : ByteArray} {maxL nL mc ms n index : Nat} {ret : Option FieldType} {ws : List Cond} {rm : Room} {Pc : Array Value → State → Prop} {Qc : Array Value → State → Outcome → State → Prop} {XC : String → State → State → Prop} {free : Addr → Prop} {Ts : List Cond} {own C : String} {b : Addr} {As rest : List Value} {g : JFrame}
theorem vx_callBack (cb : CallB R s args own index y bytes maxL ret ws rm mc ms n) (hM : vx_Met l y ws rm Pc Qc XC mc ms free) (hbl : FrameBlind Pc) : vx_Back l R p e below s args y 3 8 (PreOf R mc ms Pc) (PostOf Qc mc ms free) (vx_Post XC mc ms free) := by
  obtain ⟨hrc, hrs, hfr, hlo, hws, hcw, -, hini, -⟩ := cb
  exact vx_back (bytes := bytes) (maxL := maxL) (ret := ret) hM hbl hrc hrs hfr hlo hws hcw (fun a' U hW => word_at hW (Or.inl (by first | rfl | simp [Cond.onTables, Cond.keeps, Cond.steady])) hini)
theorem vx_runV (S : CallFix p m c cc nL s args Ts own) (hM : vx_Met l y ws rm Pc Qc XC mc ms free) (cw : CallW R s args own C index y bytes maxL ret ws rm mc ms n) (hp : PreV s H C b Pc As)
    (hg : g.method = m) (hn : As.length = n) (hsize : g.locals.size = nL) (hstack : g.stack = As.reverse ++ .ref b :: rest) (hW : 2 * g.monitorRoom + (rest.map fun v => v.category).sum ≤ 8) (hdg : decode cc g.pc = .ok (.invokevirtual index, 3)) (hf : cells + mc ≤ R.cells ∧ slots + ms ≤ R.slots) :
    vx_Run p l e R s m args below meth c H locs cells slots mc ms g rest (Qc (Value.ref b :: As).toArray) XC free := by
  have hK : vx_Back l R p e below s args y 3 8 (PreOf R mc ms Pc) (PostOf Qc mc ms free) (vx_Post XC mc ms free) := vx_callBack cw.1 hM hp.1
  obtain ⟨⟨-, -, -, -, -, -, hcode, -, hy, hlen, hl⟩, hin, hse⟩ := cw
  obtain ⟨hx, hb, hml, ho, -⟩ := S
  obtain ⟨-, ⟨cellB, hcB, hoB, hclB⟩, hPc⟩ := hp
  intro T hT X
  rcases vx_callV X hx (C := C) (bytes := bytes) (maxL := maxL) (ret := ret) ho hl hin hse hcode hy hK (by rw [hT]; exact hcB) hoB hclB hg (hsize.trans hml.symm) (argsL := As) (rest := rest) (fun sig h => hn.trans (hlen sig h)) hstack hW (by rw [hb]; exact hdg)
    (fun vm₁ hW₁ => ⟨hf.1, hf.2, hPc (T.setVm vm₁) hT hW₁⟩) with ⟨v, vm₁, ⟨U', l2, c2, s2⟩, hW₁, X', ⟨g', mk, t, L, e1, e2, hq, h1, hL, h2, h3⟩, st⟩ | ⟨q, vm₁, ⟨U', l2, c2, s2⟩, hW₁, X', ⟨g', mk, t, L, E, ce, e1, e2, hq, hce, hcv, hcl, h1, hL, h2, h3⟩, st⟩
  · dsimp only [Pt.U, Pt.locs, Pt.cells, Pt.slots] at X' e1 e2 h1 h2 h3 st
    subst h1; subst h2; subst h3
    exact Or.inl ⟨v, (T.setVm vm₁).calling g' mk (Value.ref b :: As).toArray, t, U', L, hT, X', hL, e1, e2, hq, st⟩
  · dsimp only [Pt.U, Pt.locs, Pt.cells, Pt.slots] at X' e1 e2 h1 h2 h3 st hcl
    subst h1; subst h2; subst h3
    exact Or.inr ⟨q, (T.setVm vm₁).calling g' mk (Value.ref b :: As).toArray, t, U', L, E, ce, hT, X', hL, e1, e2, hq, hce, hcv, vx_cls hW₁ hcl, st⟩
theorem vx_runS (S : CallFix p m c cc nL s args Ts own) (hM : vx_Met l y ws rm Pc Qc XC mc ms free) (cw : CallB R s args own index y bytes maxL ret ws rm mc ms n ∧ (Cond.static y).before args s = true) (hp : PreS s H Pc As)
    (hg : g.method = m) (hn : As.length = n) (hsize : g.locals.size = nL) (hstack : g.stack = As.reverse ++ rest) (hW : 2 * g.monitorRoom + (rest.map fun v => v.category).sum ≤ 8) (hdg : decode cc g.pc = .ok (.invokestatic index, 3)) (hf : cells + mc ≤ R.cells ∧ slots + ms ≤ R.slots) :
    vx_Run p l e R s m args below meth c H locs cells slots mc ms g rest (Qc As.toArray) XC free := by
  have hK : vx_Back l R p e below s args y 3 8 (PreOf R mc ms Pc) (PostOf Qc mc ms free) (vx_Post XC mc ms free) := vx_callBack cw.1 hM hp.1
  obtain ⟨⟨-, -, -, -, -, -, hcode, hini, hy, hlen, hl⟩, hstt⟩ := cw
  obtain ⟨hx, hb, hml, ho, -⟩ := S
  intro T hT X
  rcases vx_callS X hx (bytes := bytes) (maxL := maxL) (ret := ret) ho hl hstt hini hcode hy hK hg (hsize.trans hml.symm) (argsL := As) (rest := rest) (fun sig h => hn.trans (hlen sig h)) hstack hW (by rw [hb]; exact hdg)
    (fun vm₁ hW₁ => ⟨hf.1, hf.2, hp.2 (T.setVm vm₁) hT hW₁⟩) with ⟨v, vm₁, ⟨U', l2, c2, s2⟩, hW₁, X', ⟨g', mk, t, L, e1, e2, hq, h1, hL, h2, h3⟩, st⟩ | ⟨q, vm₁, ⟨U', l2, c2, s2⟩, hW₁, X', ⟨g', mk, t, L, E, ce, e1, e2, hq, hce, hcv, hcl, h1, hL, h2, h3⟩, st⟩
  · dsimp only [Pt.U, Pt.locs, Pt.cells, Pt.slots] at X' e1 e2 h1 h2 h3 st
    subst h1; subst h2; subst h3
    exact Or.inl ⟨v, (T.setVm vm₁).calling g' mk As.toArray, t, U', L, hT, X', hL, e1, e2, hq, st⟩
  · dsimp only [Pt.U, Pt.locs, Pt.cells, Pt.slots] at X' e1 e2 h1 h2 h3 st hcl
    subst h1; subst h2; subst h3
    exact Or.inr ⟨q, (T.setVm vm₁).calling g' mk As.toArray, t, U', L, E, ce, hT, X', hL, e1, e2, hq, hce, hcv, vx_cls hW₁ hcl, st⟩
end Runs
section Rows
variable {p : Program} {l : Launch} {e : Env} {R : Room} {s : State} {m : MethodId} {args : Array Value} {below : List Frame} {meth : Method} {c : Code} {H : Heap} {locs : List Loc} {cells slots : Nat} {Q : State → Prop}
variable {mc ms : Nat} {free : Addr → Prop} {A0 A1 : Nat → Prop} {H0 : Heap} {a : Array Value} {pc : Nat} {ls : Array Slot} {st0 rest : List Value}
theorem vx_keep {st₀ t T' : State} {L : List Loc} (h0 : st₀.heap = H) (e1 : T'.heap = t.heap) (hS : va_S A0 H0 H locs) (hA : ∀ q, q < H.size → A1 q → A0 q) (hf : ∀ q, free q → A0 q) (hL : ∀ q ∈ L, free q.base) (hF : va_F A1 st₀ t) :
    H.size ≤ T'.heap.size ∧ (∀ q : Nat, q < H.size → ¬ A1 q → T'.heap[q]? = H[q]?) ∧ va_S A0 H0 T'.heap (locs ++ L) := by
  obtain ⟨hz, hk⟩ := hF
  rw [h0] at hz hk
  exact ⟨by rw [e1]; exact hz, fun q h1 h2 => by rw [e1]; exact hk q h1 h2,
    ⟨Nat.le_trans hS.1 (by rw [e1]; exact hz), fun q h1 h2 => by rw [e1, hk q (Nat.lt_of_lt_of_le h1 hS.1) (fun z => h2 (hA q (Nat.lt_of_lt_of_le h1 hS.1) z))]; exact hS.2.1 q h1 h2, fun q hq => by
      rcases List.mem_append.mp hq with h | h
      · exact hS.2.2 q h
      · exact hf _ (hL q h)⟩⟩
theorem vx_calli {S SX : Type} {post : Int32 → S → Prop} {px : SX → Prop} {B : S → State → Prop} {BX : String → SX → State → Prop} {AX : Nat → Prop} (hr : vx_Run p l e R s m args below meth c H locs cells slots mc ms (F0 m pc ls st0) rest (va_Qi post B A1 a) (vx_X px BX AX) free) (hS : va_S A0 H0 H locs) (hA : ∀ q, q < H.size → A1 q → A0 q) (hf : ∀ q, free q → A0 q) (hAX : ∀ q, q < H.size → AX q → A0 q)
    (kx : ∀ (E : String) (ce : Cell) (q9 : Addr) (u : SX) (t : State) (H1 : Heap) (locs1 : List Loc), t.heap = H1 → s.vm.Alike t.vm → px u → BX E u t → H.size ≤ H1.size → (∀ q : Nat, q < H.size → ¬ AX q → H1[q]? = H[q]?) → va_S A0 H0 H1 locs1 → H1[q9]? = some ce → ce.vm = .none → s.vm.findClass E = some ce.cls → vx_W p l e R s m args below meth c H1 locs1 (cells + mc) (slots + ms) Q (F0 m pc ls rest) q9)
    (kk : ∀ (r : Int32) (u : S) (t : State) (H1 : Heap) (locs1 : List Loc), t.heap = H1 → s.vm.Alike t.vm → post r u → B u t → H.size ≤ H1.size → (∀ q : Nat, q < H.size → ¬ A1 q → H1[q]? = H[q]?) → va_S A0 H0 H1 locs1 → W p l e R s m args below meth c H1 locs1 (cells + mc) (slots + ms) Q (F0 m (pc + 3) ls (.int r :: rest))) : W p l e R s m args below meth c H locs cells slots Q (F0 m pc ls st0) := by
  intro T hT X
  rcases hr T hT X with ⟨v, st₀, t, T', L, h0, X', hL, e1, e2, ⟨⟨r, u, hv, hp, hb⟩, hF⟩, st⟩ | ⟨q, st₀, t, T', L, E, ce, h0, X', hL, e1, e2, ⟨u, hp, hb, hF⟩, hce, hcv, hcl, st⟩
  · cases hv
    obtain ⟨k1, k2, k3⟩ := vx_keep h0 e1 hS hA hf hL hF
    obtain ⟨t2, a1, b1⟩ := kk r u t T'.heap (locs ++ L) e1.symm (by rw [← e2]; exact X'.warmed.alike) hp hb k1 k2 k3 T' rfl X'
    exact ⟨t2, st t2 a1, b1⟩
  · obtain ⟨k1, k2, k3⟩ := vx_keep h0 e1 hS hAX hf hL hF
    obtain ⟨t2, a1, b1⟩ := kx E ce q u t T'.heap (locs ++ L) e1.symm (by rw [← e2]; exact X'.warmed.alike) hp hb k1 k2 k3 (by rw [e1]; exact hce) hcv hcl T' rfl X'
    exact ⟨t2, st.trans a1, b1⟩
theorem vx_calll {S SX : Type} {post : Int64 → S → Prop} {px : SX → Prop} {B : S → State → Prop} {BX : String → SX → State → Prop} {AX : Nat → Prop} (hr : vx_Run p l e R s m args below meth c H locs cells slots mc ms (F0 m pc ls st0) rest (va_Ql post B A1 a) (vx_X px BX AX) free) (hS : va_S A0 H0 H locs) (hA : ∀ q, q < H.size → A1 q → A0 q) (hf : ∀ q, free q → A0 q) (hAX : ∀ q, q < H.size → AX q → A0 q)
    (kx : ∀ (E : String) (ce : Cell) (q9 : Addr) (u : SX) (t : State) (H1 : Heap) (locs1 : List Loc), t.heap = H1 → s.vm.Alike t.vm → px u → BX E u t → H.size ≤ H1.size → (∀ q : Nat, q < H.size → ¬ AX q → H1[q]? = H[q]?) → va_S A0 H0 H1 locs1 → H1[q9]? = some ce → ce.vm = .none → s.vm.findClass E = some ce.cls → vx_W p l e R s m args below meth c H1 locs1 (cells + mc) (slots + ms) Q (F0 m pc ls rest) q9)
    (kk : ∀ (r : Int64) (u : S) (t : State) (H1 : Heap) (locs1 : List Loc), t.heap = H1 → s.vm.Alike t.vm → post r u → B u t → H.size ≤ H1.size → (∀ q : Nat, q < H.size → ¬ A1 q → H1[q]? = H[q]?) → va_S A0 H0 H1 locs1 → W p l e R s m args below meth c H1 locs1 (cells + mc) (slots + ms) Q (F0 m (pc + 3) ls (.long r :: rest))) : W p l e R s m args below meth c H locs cells slots Q (F0 m pc ls st0) := by
  intro T hT X
  rcases hr T hT X with ⟨v, st₀, t, T', L, h0, X', hL, e1, e2, ⟨⟨r, u, hv, hp, hb⟩, hF⟩, st⟩ | ⟨q, st₀, t, T', L, E, ce, h0, X', hL, e1, e2, ⟨u, hp, hb, hF⟩, hce, hcv, hcl, st⟩
  · cases hv
    obtain ⟨k1, k2, k3⟩ := vx_keep h0 e1 hS hA hf hL hF
    obtain ⟨t2, a1, b1⟩ := kk r u t T'.heap (locs ++ L) e1.symm (by rw [← e2]; exact X'.warmed.alike) hp hb k1 k2 k3 T' rfl X'
    exact ⟨t2, st t2 a1, b1⟩
  · obtain ⟨k1, k2, k3⟩ := vx_keep h0 e1 hS hAX hf hL hF
    obtain ⟨t2, a1, b1⟩ := kx E ce q u t T'.heap (locs ++ L) e1.symm (by rw [← e2]; exact X'.warmed.alike) hp hb k1 k2 k3 (by rw [e1]; exact hce) hcv hcl T' rfl X'
    exact ⟨t2, st.trans a1, b1⟩
theorem vx_callf {S SX : Type} {post : UInt32 → S → Prop} {px : SX → Prop} {B : S → State → Prop} {BX : String → SX → State → Prop} {AX : Nat → Prop} (hr : vx_Run p l e R s m args below meth c H locs cells slots mc ms (F0 m pc ls st0) rest (va_Qf post B A1 a) (vx_X px BX AX) free) (hS : va_S A0 H0 H locs) (hA : ∀ q, q < H.size → A1 q → A0 q) (hf : ∀ q, free q → A0 q) (hAX : ∀ q, q < H.size → AX q → A0 q)
    (kx : ∀ (E : String) (ce : Cell) (q9 : Addr) (u : SX) (t : State) (H1 : Heap) (locs1 : List Loc), t.heap = H1 → s.vm.Alike t.vm → px u → BX E u t → H.size ≤ H1.size → (∀ q : Nat, q < H.size → ¬ AX q → H1[q]? = H[q]?) → va_S A0 H0 H1 locs1 → H1[q9]? = some ce → ce.vm = .none → s.vm.findClass E = some ce.cls → vx_W p l e R s m args below meth c H1 locs1 (cells + mc) (slots + ms) Q (F0 m pc ls rest) q9)
    (kk : ∀ (r : UInt32) (u : S) (t : State) (H1 : Heap) (locs1 : List Loc), t.heap = H1 → s.vm.Alike t.vm → post r u → B u t → H.size ≤ H1.size → (∀ q : Nat, q < H.size → ¬ A1 q → H1[q]? = H[q]?) → va_S A0 H0 H1 locs1 → W p l e R s m args below meth c H1 locs1 (cells + mc) (slots + ms) Q (F0 m (pc + 3) ls (.float r :: rest))) : W p l e R s m args below meth c H locs cells slots Q (F0 m pc ls st0) := by
  intro T hT X
  rcases hr T hT X with ⟨v, st₀, t, T', L, h0, X', hL, e1, e2, ⟨⟨r, u, hv, hp, hb⟩, hF⟩, st⟩ | ⟨q, st₀, t, T', L, E, ce, h0, X', hL, e1, e2, ⟨u, hp, hb, hF⟩, hce, hcv, hcl, st⟩
  · cases hv
    obtain ⟨k1, k2, k3⟩ := vx_keep h0 e1 hS hA hf hL hF
    obtain ⟨t2, a1, b1⟩ := kk r u t T'.heap (locs ++ L) e1.symm (by rw [← e2]; exact X'.warmed.alike) hp hb k1 k2 k3 T' rfl X'
    exact ⟨t2, st t2 a1, b1⟩
  · obtain ⟨k1, k2, k3⟩ := vx_keep h0 e1 hS hAX hf hL hF
    obtain ⟨t2, a1, b1⟩ := kx E ce q u t T'.heap (locs ++ L) e1.symm (by rw [← e2]; exact X'.warmed.alike) hp hb k1 k2 k3 (by rw [e1]; exact hce) hcv hcl T' rfl X'
    exact ⟨t2, st.trans a1, b1⟩
theorem vx_calld {S SX : Type} {post : UInt64 → S → Prop} {px : SX → Prop} {B : S → State → Prop} {BX : String → SX → State → Prop} {AX : Nat → Prop} (hr : vx_Run p l e R s m args below meth c H locs cells slots mc ms (F0 m pc ls st0) rest (va_Qd post B A1 a) (vx_X px BX AX) free) (hS : va_S A0 H0 H locs) (hA : ∀ q, q < H.size → A1 q → A0 q) (hf : ∀ q, free q → A0 q) (hAX : ∀ q, q < H.size → AX q → A0 q)
    (kx : ∀ (E : String) (ce : Cell) (q9 : Addr) (u : SX) (t : State) (H1 : Heap) (locs1 : List Loc), t.heap = H1 → s.vm.Alike t.vm → px u → BX E u t → H.size ≤ H1.size → (∀ q : Nat, q < H.size → ¬ AX q → H1[q]? = H[q]?) → va_S A0 H0 H1 locs1 → H1[q9]? = some ce → ce.vm = .none → s.vm.findClass E = some ce.cls → vx_W p l e R s m args below meth c H1 locs1 (cells + mc) (slots + ms) Q (F0 m pc ls rest) q9)
    (kk : ∀ (r : UInt64) (u : S) (t : State) (H1 : Heap) (locs1 : List Loc), t.heap = H1 → s.vm.Alike t.vm → post r u → B u t → H.size ≤ H1.size → (∀ q : Nat, q < H.size → ¬ A1 q → H1[q]? = H[q]?) → va_S A0 H0 H1 locs1 → W p l e R s m args below meth c H1 locs1 (cells + mc) (slots + ms) Q (F0 m (pc + 3) ls (.double r :: rest))) : W p l e R s m args below meth c H locs cells slots Q (F0 m pc ls st0) := by
  intro T hT X
  rcases hr T hT X with ⟨v, st₀, t, T', L, h0, X', hL, e1, e2, ⟨⟨r, u, hv, hp, hb⟩, hF⟩, st⟩ | ⟨q, st₀, t, T', L, E, ce, h0, X', hL, e1, e2, ⟨u, hp, hb, hF⟩, hce, hcv, hcl, st⟩
  · cases hv
    obtain ⟨k1, k2, k3⟩ := vx_keep h0 e1 hS hA hf hL hF
    obtain ⟨t2, a1, b1⟩ := kk r u t T'.heap (locs ++ L) e1.symm (by rw [← e2]; exact X'.warmed.alike) hp hb k1 k2 k3 T' rfl X'
    exact ⟨t2, st t2 a1, b1⟩
  · obtain ⟨k1, k2, k3⟩ := vx_keep h0 e1 hS hAX hf hL hF
    obtain ⟨t2, a1, b1⟩ := kx E ce q u t T'.heap (locs ++ L) e1.symm (by rw [← e2]; exact X'.warmed.alike) hp hb k1 k2 k3 (by rw [e1]; exact hce) hcv hcl T' rfl X'
    exact ⟨t2, st.trans a1, b1⟩
theorem vx_callv {S SX : Type} {post : S → Prop} {px : SX → Prop} {B : S → State → Prop} {BX : String → SX → State → Prop} {AX : Nat → Prop} (hr : vx_Run p l e R s m args below meth c H locs cells slots mc ms (F0 m pc ls st0) rest (va_Qv post B A1 a) (vx_X px BX AX) free) (hS : va_S A0 H0 H locs) (hA : ∀ q, q < H.size → A1 q → A0 q) (hf : ∀ q, free q → A0 q) (hAX : ∀ q, q < H.size → AX q → A0 q)
    (kx : ∀ (E : String) (ce : Cell) (q9 : Addr) (u : SX) (t : State) (H1 : Heap) (locs1 : List Loc), t.heap = H1 → s.vm.Alike t.vm → px u → BX E u t → H.size ≤ H1.size → (∀ q : Nat, q < H.size → ¬ AX q → H1[q]? = H[q]?) → va_S A0 H0 H1 locs1 → H1[q9]? = some ce → ce.vm = .none → s.vm.findClass E = some ce.cls → vx_W p l e R s m args below meth c H1 locs1 (cells + mc) (slots + ms) Q (F0 m pc ls rest) q9)
    (kk : ∀ (u : S) (t : State) (H1 : Heap) (locs1 : List Loc), t.heap = H1 → s.vm.Alike t.vm → post u → B u t → H.size ≤ H1.size → (∀ q : Nat, q < H.size → ¬ A1 q → H1[q]? = H[q]?) → va_S A0 H0 H1 locs1 → W p l e R s m args below meth c H1 locs1 (cells + mc) (slots + ms) Q (F0 m (pc + 3) ls (rest))) : W p l e R s m args below meth c H locs cells slots Q (F0 m pc ls st0) := by
  intro T hT X
  rcases hr T hT X with ⟨v, st₀, t, T', L, h0, X', hL, e1, e2, ⟨⟨u, hv, hp, hb⟩, hF⟩, st⟩ | ⟨q, st₀, t, T', L, E, ce, h0, X', hL, e1, e2, ⟨u, hp, hb, hF⟩, hce, hcv, hcl, st⟩
  · cases hv
    obtain ⟨k1, k2, k3⟩ := vx_keep h0 e1 hS hA hf hL hF
    obtain ⟨t2, a1, b1⟩ := kk u t T'.heap (locs ++ L) e1.symm (by rw [← e2]; exact X'.warmed.alike) hp hb k1 k2 k3 T' rfl X'
    exact ⟨t2, st t2 a1, b1⟩
  · obtain ⟨k1, k2, k3⟩ := vx_keep h0 e1 hS hAX hf hL hF
    obtain ⟨t2, a1, b1⟩ := kx E ce q u t T'.heap (locs ++ L) e1.symm (by rw [← e2]; exact X'.warmed.alike) hp hb k1 k2 k3 (by rw [e1]; exact hce) hcv hcl T' rfl X'
    exact ⟨t2, st.trans a1, b1⟩
/-- caught by the row x of this method's table; the rows ahead don't take it -/
theorem vx_catch {own name : String} {E : String} {ce : Cell} {q : Addr} (hown : s.vm.findClass own = some m.cls) (pre : List ExceptionTableEntry) (x : ExceptionTableEntry) (suf : List ExceptionTableEntry) (hsplit : c.exceptionTable.toList = pre ++ x :: suf)
    (hpass : ∀ z ∈ pre, covers z pc = false ∨ (z.catchType ≠ 0 ∧ ∃ nm : String, (Cond.classLink own z.catchType nm).before args s = true ∧ va_Nc E nm s)) (hx : covers x pc = true) (h0 : x.catchType ≠ 0)
    (hlink : (Cond.classLink own x.catchType name).before args s = true) (hcast : (Cond.castable E name).before args s = true) (hcell : H[q]? = some ce) (hv : ce.vm = .none) (hcl : s.vm.findClass E = some ce.cls)
    (kk : W p l e R s m args below meth c H locs cells slots Q (F0 m x.handlerPc ls [.ref q])) : vx_W p l e R s m args below meth c H locs cells slots Q (F0 m pc ls rest) q := by
  intro T hT X
  have hpl : e.platform.magicAccessors = ({} : Platform).magicAccessors := by rw [X.admits.platform]
  obtain ⟨c3, c4, hc3, hc4, hasg⟩ := Cond.castable_spec hcast
  cases Option.some.inj (hc3.symm.trans hcl)
  obtain ⟨c5, hc5, hcl5⟩ := Cond.classLink_spec hown hlink e.platform hpl
  cases Option.some.inj (hc4.symm.trans hc5)
  obtain ⟨vm', X', st⟩ := Jvm.Stand.thenCaughtThrough X q (g := F0 m pc ls rest) rfl (Steps.refl _) (by rw [hT]; exact hcell) (by rw [hv]; rfl) (by obtain ⟨k9, h9, -⟩ := Vm.findClass_spec hcl; exact ⟨k9, h9⟩) pre x suf hsplit
    (fun z hz => by
      rcases hpass z hz with h | ⟨hz0, nm, hl1, hn1⟩
      · exact Or.inl h
      · obtain ⟨c6, hc6, hcl6⟩ := Cond.classLink_spec hown hl1 e.platform hpl
        obtain ⟨a8, b8, h1, h2, h3⟩ := hn1
        cases Option.some.inj (h1.symm.trans hcl)
        cases Option.some.inj (h2.symm.trans hc6)
        exact Or.inr ⟨hz0, _, hcl6, h3⟩) hx (Or.inr ⟨h0, c4, hcl5, hasg⟩)
  obtain ⟨t, a1, b1⟩ := kk (T.setVm vm') hT X'
  exact ⟨t, st.trans a1, b1⟩
end Rows
section Ends
variable {p : Program} {l : Launch} {e : Env} {R : Room} {s : State} {m : MethodId} {args : Array Value} {below : List Frame} {meth : Method} {c : Code} {H : Heap} {locs : List Loc} {cells slots : Nat} {Q : State → Prop}
variable {mc ms : Nat} {free : Addr → Prop} {A0 A1 : Nat → Prop} {H0 : Heap} {a : Array Value} {ls : Array Slot} {st0 rest : List Value}
variable {Qc : Array Value → State → Outcome → State → Prop} {XC : String → State → State → Prop}
/-- what a body that may throw owes at its end -/
def vx_MQ (below : List Frame) (Qc : Array Value → State → Outcome → State → Prop) (XC : String → State → State → Prop) (a : Array Value) (s : State) (mc ms : Nat) (free : Addr → Prop) : State → Prop := fun t =>
  ∃ o, t.status = .running ∧ Ended t below o ∧ vx_Q Qc XC mc ms free a s o t
theorem vx_ret {g : JFrame} {mc ms : Nat} (k : W p l e R s m args below meth c H locs cells slots (MQ below Qc args s mc ms free) g) : W p l e R s m args below meth c H locs cells slots (vx_MQ below Qc XC args s mc ms free) g := by
  intro T hT X
  obtain ⟨t, a1, o, b1, b2, b3, b4⟩ := k T hT X
  exact ⟨t, a1, o, b1, b2, Or.inl ⟨b3, b4⟩⟩
/-- not caught here: it goes on to the caller -/
theorem vx_widen {g : JFrame} {q : Addr} {k n : Nat} (h1 : cells ≤ k) (h2 : slots ≤ n) (kk : vx_W p l e R s m args below meth c H locs k n Q g q) : vx_W p l e R s m args below meth c H locs cells slots Q g q := fun T hT X => kk T hT (stand_widen X h1 h2)
theorem vx_out {pc : Nat} {E : String} {ce : Cell} {q : Addr} {mc ms : Nat} (hout : ∀ x ∈ c.exceptionTable.toList, covers x pc = false) (hlocks : meth.locks = false) (hcell : H[q]? = some ce) (hv : ce.vm = .none) (hcl : s.vm.findClass E = some ce.cls)
    (hx : ∀ t : State, t.heap = H → s.vm.Alike t.vm → XC E s t) (hf : ∀ z ∈ locs, free z.base) (hc : cells ≤ mc) (hs : slots ≤ ms) :
    vx_W p l e R s m args below meth c H locs cells slots (vx_MQ below Qc XC args s mc ms free) (F0 m pc ls rest) q := by
  intro T hT X
  obtain ⟨st1, hrun, hend, hW, hsm⟩ := X.leaveThrown q (g := F0 m pc ls rest) rfl rfl rfl hout hlocks
  have hcell9 : (T.setFrames (.throwing q :: below)).heap[q]? = some ce := by
    show T.heap[q]? = some ce
    rw [hT]; exact hcell
  exact ⟨_, st1, .threw q, hrun, hend, Or.inr ⟨q, rfl, E, ce, locs, hx _ hT hW.alike, hcell9, hv, hcl, hW, hsm.mono hc hs, hf⟩⟩
theorem vx_frame {U : State} {k n : Nat} (h : s.sameButNew ({ U with vm := s.vm } : State) locs k n) : s.heap.size ≤ U.heap.size ∧ ∀ q : Nat, q < s.heap.size → (∀ z ∈ locs, z.base ≠ q) → U.heap[q]? = s.heap[q]? := by
  obtain ⟨-, h2, -, -, -, h6⟩ := h
  refine ⟨h2, fun q hq hz => ?_⟩
  obtain ⟨c9, e1, e2, e3, e4⟩ := h6 q _ (Array.getElem?_eq_getElem hq)
  have hs : c9.slots = (s.heap[q]).slots := Array.ext_getElem? fun i => e4 i fun hm => hz _ hm rfl
  have h9 : c9 = s.heap[q] := by
    rw [hs] at e2
    exact e2
  have e5 : U.heap[q]? = some c9 := e1
  rw [e5, h9, Array.getElem?_eq_getElem hq]
/-- the words of a throw but the four that speak of the heap -/
def vx_no (w : Cond) : Bool := decide (w ≠ .isRef (.static Bundle.tN "UNASSIGNED_STACK" Bundle.steD)) && decide (w ≠ .isRef (.static Bundle.tN "SUPPRESSED_SENTINEL" Bundle.listD)) && decide (w ≠ .laysStatic Bundle.tN "UNASSIGNED_STACK" Bundle.steD) && decide (w ≠ .laysStatic Bundle.tN "SUPPRESSED_SENTINEL" Bundle.listD)
def vx_at0 (own : String) (ic : Nat) (X : String) (names : List String) : List Cond := (Bundle.ownAtoms0 own ic X names).filter vx_no
def vx_atS (own : String) (ic : Nat) (X : String) (names : List String) : List Cond := (Bundle.ownAtoms own ic X names).filter vx_no
/-- a word that the tables alone decide, or a good one -/
def vx_ot (w : Cond) : Bool := w.onTables || goodWord w
theorem vx_ot_at {args a' : Array Value} {s U : State} {w : Cond} (hW : s.WarmedH U.vm) (hvm : s.vm = U.vm) (hg : vx_ot w = true) (h : w.before args s = true) : w.before a' U = true := by
  simp only [vx_ot, Bool.or_eq_true] at hg
  rcases hg with hg | hg
  · exact va_tabs hg hvm h
  · exact word_at hW (good_of_word hg) h
/-- a list's words: the good ones out of the method's own list, the others by premises of their own -/
theorem vx_hat {args : Array Value} {s : State} {L B : List Cond} (h1 : ∀ w ∈ L.filter goodWord, w.before args s = true) (h2 : ∀ w ∈ L.filter (fun w => !goodWord w), w ∈ B) (h3 : ∀ w ∈ B, w.before args s = true) : ∀ w ∈ L, w.before args s = true := by
  intro w hw
  by_cases g : goodWord w = true
  · exact h1 w (List.mem_filter.mpr ⟨hw, g⟩)
  · refine h3 w (h2 w (List.mem_filter.mpr ⟨hw, ?_⟩))
    show (!goodWord w) = true
    cases hgw : goodWord w
    · rfl
    · exact absurd hgw g
theorem vx_c {args : Array Value} {s : State} {w : Cond} {B : List Cond} (h : w.before args s = true) (t : ∀ w ∈ B, w.before args s = true) : ∀ w' ∈ w :: B, w'.before args s = true := fun w' h' => (List.mem_cons.mp h').elim (fun e => by rw [e]; exact h) (t w')
theorem vx_n {args : Array Value} {s : State} : ∀ w ∈ ([] : List Cond), w.before args s = true := fun _ h => nomatch h
theorem vx_own {args : Array Value} {s : State} {L : List Cond} (h1 : ∀ w ∈ L.filter vx_no, w.before args s = true)
    (hU : (Cond.isRef (.static Bundle.tN "UNASSIGNED_STACK" Bundle.steD)).before args s = true) (hN : (Cond.isRef (.static Bundle.tN "SUPPRESSED_SENTINEL" Bundle.listD)).before args s = true)
    (lU : (Cond.laysStatic Bundle.tN "UNASSIGNED_STACK" Bundle.steD).before args s = true) (lN : (Cond.laysStatic Bundle.tN "SUPPRESSED_SENTINEL" Bundle.listD).before args s = true) : ∀ w ∈ L, w.before args s = true := by
  intro w hw
  by_cases e1 : w = .isRef (.static Bundle.tN "UNASSIGNED_STACK" Bundle.steD)
  · rw [e1]; exact hU
  · by_cases e2 : w = .isRef (.static Bundle.tN "SUPPRESSED_SENTINEL" Bundle.listD)
    · rw [e2]; exact hN
    · by_cases e3 : w = .laysStatic Bundle.tN "UNASSIGNED_STACK" Bundle.steD
      · rw [e3]; exact lU
      · by_cases e4 : w = .laysStatic Bundle.tN "SUPPRESSED_SENTINEL" Bundle.listD
        · rw [e4]; exact lN
        · exact h1 w (List.mem_filter.mpr ⟨hw, by unfold vx_no; rw [decide_eq_true e1, decide_eq_true e2, decide_eq_true e3, decide_eq_true e4]; rfl⟩)
/-- where a static field lies, its class's statics cell in H -/
def vx_L (C n d : String) (A : Nat → Prop) (U : State) (H : Heap) : Prop := ∃ (c : ClassId) (k : Class) (i : Nat) (f : Field) (a : Nat) (cell : Cell), U.vm.findClass C = some c ∧ U.fieldFound? C n d = some (c, k, i, f) ∧ f.isStatic = true ∧ k.statics = some a ∧ H[a]? = some cell ∧ cell.vm.isStatics = true ∧ cell.cls = c ∧ f.slot < cell.slots.size ∧ k.staticTypes[f.slot]? = some f.type ∧ ¬ A a
theorem vx_L.moved {C n d : String} {A : Nat → Prop} {u U : State} {H : Heap} (hvm : u.vm.Alike U.vm) (h : vx_L C n d A u H) : vx_L C n d A U H := by
  obtain ⟨c, k, i, f, a, cell, h1, h2, h3, h4, h5, h6, h7, h8, h9, h10⟩ := h
  obtain ⟨k', hi', he⟩ := State.fieldFound?_setVm hvm h2
  exact ⟨c, k', i, f, a, cell, by rw [hvm.findClass]; exact h1, hi', h3, by rw [he]; exact h4, h5, h6, h7, h8, by rw [he]; exact h9, h10⟩
theorem vx_L.kept {C n d : String} {A : Nat → Prop} {U : State} {H H1 : Heap} (h : vx_L C n d A U H) (hq : ∀ a : Nat, a < H.size → ¬ A a → H1[a]? = H[a]?) : vx_L C n d A U H1 := by
  obtain ⟨c, k, i, f, a, cell, h1, h2, h3, h4, h5, h6, h7, h8, h9, h10⟩ := h
  exact ⟨c, k, i, f, a, cell, h1, h2, h3, h4, by rw [hq a (Array.getElem?_eq_some_iff.mp h5).1 h10]; exact h5, h6, h7, h8, h9, h10⟩
theorem vx_L.narrow {C n d : String} {A B : Nat → Prop} {U : State} {H : Heap} (h : vx_L C n d A U H) (hAB : ∀ q, B q → A q) : vx_L C n d B U H := by
  obtain ⟨c, k, i, f, a, cell, h1, h2, h3, h4, h5, h6, h7, h8, h9, h10⟩ := h
  exact ⟨c, k, i, f, a, cell, h1, h2, h3, h4, h5, h6, h7, h8, h9, fun z => h10 (hAB _ z)⟩
theorem vx_L.word {C n d : String} {A : Nat → Prop} {s : State} {args : Array Value} (h : vx_L C n d A s s.heap) : (Cond.laysStatic C n d).before args s = true := by
  obtain ⟨c, k, i, f, a, cell, h1, h2, h3, h4, h5, h6, h7, h8, h9, -⟩ := h
  show (Cond.laysStatic C n d).holds args s none s [] = true
  exact Cond.laysStatic_of h1 h2 h3 h4 h5 h6 h7 h8 h9
/-- .. and what it holds: null or some reference -/
def vx_Zq (C n d : String) (A : Nat → Prop) (U : State) (H : Heap) : Prop := va_Zq C n d A U H ∧ vx_L C n d A U H
theorem vx_Zq.moved {C n d : String} {A : Nat → Prop} {u U : State} {H : Heap} (hvm : u.vm.Alike U.vm) (h : vx_Zq C n d A u H) : vx_Zq C n d A U H := ⟨va_Zq.moved hvm h.1, vx_L.moved hvm h.2⟩
theorem vx_Zq.kept {C n d : String} {A : Nat → Prop} {U : State} {H H1 : Heap} (h : vx_Zq C n d A U H) (hq : ∀ a : Nat, a < H.size → ¬ A a → H1[a]? = H[a]?) : vx_Zq C n d A U H1 := ⟨va_Zq.kept h.1 hq, vx_L.kept h.2 hq⟩
theorem vx_Zq.narrow {C n d : String} {A B : Nat → Prop} {U : State} {H : Heap} (h : vx_Zq C n d A U H) (hAB : ∀ q, B q → A q) : vx_Zq C n d B U H := ⟨va_Zq.narrow h.1 hAB, vx_L.narrow h.2 hAB⟩
theorem vx_Zqof {args : Array Value} {s : State} {C n d : String} {A : Nat → Prop} (hl : (Cond.laysStatic C n d).before args s = true) (hini : (Cond.initialized C).before args s = true) (h : (Cond.isRef (.static C n d)).before args s = true) (hA : ∀ a : Nat, a < s.heap.size → ¬ A a) : vx_Zq C n d A s s.heap := by
  refine ⟨va_Zqof hl hini h hA, ?_⟩
  obtain ⟨c, k, i, f, a, cell, h1, h2, h3, h4, h5, h6, h7, h8, h9⟩ := Cond.laysStatic_spec hl
  exact ⟨c, k, i, f, a, cell, h1, h2, h3, h4, h5, h6, h7, h8, h9, hA a (Array.getElem?_eq_some_iff.mp h5).1⟩
theorem vx_isRef {C n d : String} {v : Value} {A : Nat → Prop} {s : State} {args : Array Value} (h : va_Z C n d v A s s.heap) (hv : v.isRef = true) : (Cond.isRef (.static C n d)).before args s = true := by
  obtain ⟨cf, kf, fi, f, a, cell, h1, h2, h3, h4, h5, h6, h7, -⟩ := h
  have he : (Term.static C n d).eval args s none [] s = some v := by
    simp [Term.eval, State.fieldNamed?, h1, h2, h4, h5, h6, h7]
  simp only [Cond.before, Cond.holds, Cond.value, he]
  cases v <;> simp_all [Value.isRef]
theorem vx_isRefq {C n d : String} {A : Nat → Prop} {s : State} {args : Array Value} (h : va_Zq C n d A s s.heap) : (Cond.isRef (.static C n d)).before args s = true := by
  rcases h with h | ⟨t, h⟩
  · exact vx_isRef h rfl
  · exact vx_isRef h rfl
/-- the same frame, seen from here: as if the method were called anew in this heap -/
theorem vx_rebase {T : State} (X : Stand p l e R s m args below meth c T locs cells slots) {R' : Room} (hf : R'.frames ≤ R.frames) (hl : R'.locals ≤ R.locals) (hc : cells + R'.cells ≤ R.cells) (hs : slots + R'.slots ≤ R.slots) :
    Stand p l e R' ((T.setVm s.vm).setFrames (.invoking m args :: below)) m args below meth c T [] 0 0 := by
  have htop : (T.setVm s.vm).topJava?.isSome := X.here.top
  have hF : ((T.setVm s.vm).setFrames (.invoking m args :: below)).frames = .invoking m args :: below := State.frames_setFrames _ (State.cur_lt_of_top htop)
  obtain ⟨g₀, hg0⟩ := Option.isSome_iff_exists.mp htop
  obtain ⟨r, hr⟩ := State.topJava?_eq_some.mp hg0
  have hl9 : e.platform.stackLimits (T.setVm s.vm).me = e.platform.stackLimits s.me := X.limits
  have hb9 : (T.setVm s.vm).me.stackBytes = s.me.stackBytes := X.bytes
  refine ⟨X.admits, X.cas, X.clock, hF, ?_, X.hears, X.method, X.code, X.here, X.tail, X.warmed, ?_, ?_, ?_⟩
  · have h := X.room
    have hU : ((T.setVm s.vm).setFrames (.invoking m args :: below)).localsInUse = s.localsInUse := by
      rw [State.localsInUse_invoking hF (meth := meth) (c := c) X.method X.code, State.localsInUse_invoking X.frames X.method X.code]
    simp only [State.hasRoom, Bool.and_eq_true, decide_eq_true_eq] at h ⊢
    obtain ⟨⟨⟨⟨h1, h2, h3, h4, h5, h6⟩, h7⟩, h8⟩, h9⟩ := h
    rw [X.frames, List.length_cons] at h2 h3
    have q1 := X.heapSize
    have q2 := X.used
    simp only [hF, hU, List.length_cons, State.stackLimits_setFrames, State.stackBytes_setFrames, hl9, hb9]
    refine ⟨⟨⟨⟨by omega, by omega, by omega, by omega, by omega, h6⟩, ?_⟩, ?_⟩, X.book⟩
    · show T.heap.size + R'.cells ≤ e.platform.maxCells
      omega
    · show T.slotsUsed + R'.slots ≤ e.platform.maxSlots
      omega
  · rw [State.stackLimits_setFrames]; rfl
  · rw [State.stackBytes_setFrames]; rfl
  · refine ⟨?_, Nat.le_refl _, Nat.le_refl _, ?_, ?_, fun a c9 h9 => ⟨c9, h9, rfl, rfl, fun _ _ => rfl⟩⟩
    · obtain ⟨t, ht, -⟩ := State.frames_cons hr
      show T.setVm s.vm = { ((T.setVm s.vm).setFrames (.invoking m args :: below)).setFrames (T.setVm s.vm).frames with heap := T.heap, slotsUsed := T.slotsUsed }
      rw [State.setFrames_setFrames, State.setFrames_self ht]
      rfl
    · show T.slotsUsed = T.slotsUsed + ((T.heap.toList.drop T.heap.size).map (·.slots.size)).sum
      rw [List.drop_eq_nil_of_le (Nat.le_of_eq Array.length_toList)]
      rfl
    · show ((T.heap.toList.drop T.heap.size).map (·.slots.size)).sum ≤ 0
      rw [List.drop_eq_nil_of_le (Nat.le_of_eq Array.length_toList)]
      exact Nat.le_refl _
/-- 'throw new E()': new; dup; invokespecial; athrow -/
theorem vx_throw0 {cc : ByteArray} {pc : Nat} (hexec : p.tables.exec = Jvm.exec) (hb : c.code = cc) (hl : l.stackTraces = false) {own cls : String} {names : List String} {ik ic mc ms : Nat} {A : Nat → Prop}
    (hown : s.vm.findClass own = some m.cls) (hcls : Bundle.fit cls = true) (hnames : ∀ n ∈ names, Bundle.fit n = true)
    (hk : (Cond.classLink own ik cls).before args s = true) (hini : (Cond.initialized cls).before args s = true) (hat : ∀ w ∈ vx_at0 own ic cls names, w.before args s = true)
    (hgood : ∀ w ∈ Cond.classLink own ik cls :: Cond.initialized cls :: vx_at0 own ic cls names, vx_ot w = true)
    (hU : vx_Zq Bundle.tN "UNASSIGNED_STACK" Bundle.steD A s s.heap) (hN : vx_Zq Bundle.tN "SUPPRESSED_SENTINEL" Bundle.listD A s s.heap) (hS : va_S A s.heap H locs) (hsize : ls.size = c.maxLocals)
    (d0 : decode cc pc = .ok (.new ik, 3)) (d3 : decode cc (pc + 3) = .ok (.dup, 1)) (d4 : decode cc (pc + 4) = .ok (.invokespecial ic, 3)) (d7 : decode cc (pc + 7) = .ok (.athrow, 1))
    (hout : ∀ x ∈ c.exceptionTable.toList, covers x (pc + 7) = false)
    (hRframes : names.length + 3 < R.frames) (hRlocals : (rest.map fun v => v.category).sum + (13 * (names.length + 1) + 42) ≤ R.locals) (hRcells : cells + 1 ≤ R.cells) (hRslots : slots + 6 ≤ R.slots) (hlocks : meth.locks = false)
    (hx : ∀ t : State, s.vm.Alike t.vm → H.size ≤ t.heap.size → (∀ q : Nat, q < H.size → t.heap[q]? = H[q]?) → XC cls s t)
    (hf : ∀ z ∈ locs, free z.base) (hc : cells + 1 ≤ mc) (hs : slots + 6 ≤ ms) :
    W p l e R s m args below meth c H locs cells slots (vx_MQ below Qc XC args s mc ms free) (F0 m pc ls rest) := by
  intro T hT X
  have htr : e.platform.stackTraces = false := (show e.platform.stackTraces = l.stackTraces by rw [X.admits.platform]).trans hl
  have Y := vx_rebase X (R' := { frames := R.frames, locals := R.locals, cells := 1, slots := 6 }) (Nat.le_refl _) (Nat.le_refl _) hRcells hRslots
  obtain ⟨s', hA⟩ : ∃ z, z = (T.setVm s.vm).setFrames (.invoking m args :: below) := ⟨_, rfl⟩
  rw [← hA] at Y
  have hvm : s'.vm = s.vm := by rw [hA]; rfl
  have hhp : s'.heap = H := by rw [hA]; exact hT
  have hW0 : s.WarmedH s'.vm := by rw [hvm]; exact State.WarmedH.refl s
  have hat' : ∀ w ∈ vx_at0 own ic cls names, w.before args s' = true := fun w hw => vx_ot_at hW0 hvm.symm (hgood w (List.mem_cons_of_mem _ (List.mem_cons_of_mem _ hw))) (hat w hw)
  have hk' : (Cond.classLink own ik cls).before args s' = true := vx_ot_at hW0 hvm.symm (hgood _ List.mem_cons_self) hk
  have hini' : (Cond.initialized cls).before args s' = true := vx_ot_at hW0 hvm.symm (hgood _ (List.mem_cons_of_mem _ List.mem_cons_self)) hini
  have hU' : vx_Zq Bundle.tN "UNASSIGNED_STACK" Bundle.steD A s' s'.heap := by rw [hhp]; exact vx_Zq.moved hW0.alike (hU.kept hS.2.1)
  have hN' : vx_Zq Bundle.tN "SUPPRESSED_SENTINEL" Bundle.listD A s' s'.heap := by rw [hhp]; exact vx_Zq.moved hW0.alike (hN.kept hS.2.1)
  have h : ∀ w ∈ Bundle.ownAtoms0 own ic cls names, w.before args s' = true := vx_own hat' (vx_isRefq hU'.1) (vx_isRefq hN'.1) hU'.2.word hN'.2.word
  have hown' : s'.vm.findClass own = some m.cls := by rw [hvm]; exact hown
  have hins : (Cond.instantiable cls 6).before args s' = true := h _ (by simp [Bundle.ownAtoms0])
  obtain ⟨vm₁, cX, kX, hfX, hkX, -, -, X₁, st1⟩ := Y.newCold hexec (own := own) (C := cls) (index := ik) (n := 6) hown' hk' hins hini'
    (g := F0 m pc ls rest) rfl (by rw [hb]; exact d0) (Nat.le_refl _) (Nat.le_refl _)
  generalize hT1 : (T.setVm vm₁).pushCell { cls := cX, slots := kX.instanceTypes.map defaultValue, vm := .none } = T1 at X₁ st1
  have hcat : (Value.ref T.heap.size).category = 1 := rfl
  have hcellA : T1.heap[T.heap.size]? = some (freshCell cX kX) := by rw [← hT1]; exact State.heap_pushCell_size _ _
  have d3' : decode c.code (pc + 3) = .ok (.dup, 1) := by rw [hb]; exact d3
  obtain ⟨U, hsteps, hrun, hend, hW, hsame, ce, hce, hO⟩ := X₁.ctorThrow0 hexec htr (own := own) (cls := cls) (names := names) (ic := ic) hown' hcls hnames h (fun x hx => nomatch hx) hfX hkX hcellA (by rw [hhp, hT]; exact Nat.le_refl _)
    (g := { method := m, pc := pc + 4, locals := ls, stack := .ref T.heap.size :: .ref T.heap.size :: rest, locked := none }) rfl hsize rfl rfl (rest := rest) rfl
    (by rw [hb]; exact d4) (by rw [hb]; exact d7) hout hRframes (by simp only [List.map_cons, List.sum_cons, hcat]; omega) hlocks
  obtain ⟨f1, f2⟩ := vx_frame hsame
  rw [hhp] at f1 f2
  have hWs : s.WarmedH U.vm := State.WarmedH.trans hW0 hW
  have hcl : s.vm.findClass cls = some ce.cls := by
    have h9 := hO.cls
    rw [hvm] at h9
    exact h9
  have hall : s.sameButNew ({ U with vm := s.vm } : State) locs mc ms := by
    subst hA
    obtain ⟨e1, e2⟩ := hsame
    rw [State.setFrames_setFrames] at e1
    have h2 : (T.setVm s.vm).sameButNew ({ U with vm := s.vm } : State) [] (0 + 1) (0 + 6) := ⟨e1, e2⟩
    have h3 := X.same.trans h2
    rw [List.append_nil] at h3
    exact h3.mono hc hs
  refine ⟨U, ?_, .threw T.heap.size, hrun, hend, Or.inr ⟨T.heap.size, rfl, cls, ce, locs, hx U hWs.alike f1 (fun q hq => f2 q hq (fun z hz => nomatch hz)), hce, hO.vm, hcl, hWs, hall, hf⟩⟩
  refine st1 _ ?_
  show Steps p.tables e below (T1.setTop { method := m, pc := pc + 3, locals := ls, stack := .ref T.heap.size :: rest, locked := none }) _
  jvm_step X₁.here [X₁.here.top, hexec, d3', Value.category]
  exact hsteps
/-- 'throw new E("text")': new; dup; ldc; invokespecial; athrow -/
theorem vx_throwS {cc : ByteArray} {pc : Nat} (hexec : p.tables.exec = Jvm.exec) (hb : c.code = cc) (hl : l.stackTraces = false) {own cls text : String} {names : List String} {ik is ic mc ms sa : Nat} {A : Nat → Prop}
    (hown : s.vm.findClass own = some m.cls) (hcls : Bundle.fit cls = true) (hnames : ∀ n ∈ names, Bundle.fit n = true)
    (hk : (Cond.classLink own ik cls).before args s = true) (hini : (Cond.initialized cls).before args s = true) (hstr : vk_R own is text sa s) (hat : ∀ w ∈ vx_atS own ic cls names, w.before args s = true)
    (hgood : ∀ w ∈ Cond.classLink own ik cls :: Cond.initialized cls :: vx_atS own ic cls names, vx_ot w = true)
    (hU : vx_Zq Bundle.tN "UNASSIGNED_STACK" Bundle.steD A s s.heap) (hN : vx_Zq Bundle.tN "SUPPRESSED_SENTINEL" Bundle.listD A s s.heap) (hS : va_S A s.heap H locs) (hsize : ls.size = c.maxLocals)
    (d0 : decode cc pc = .ok (.new ik, 3)) (d3 : decode cc (pc + 3) = .ok (.dup, 1)) (d4 : decode cc (pc + 4) = .ok (.ldc is, 2)) (d6 : decode cc (pc + 6) = .ok (.invokespecial ic, 3)) (d9 : decode cc (pc + 9) = .ok (.athrow, 1))
    (hout : ∀ x ∈ c.exceptionTable.toList, covers x (pc + 9) = false)
    (hRframes : names.length + 3 < R.frames) (hRlocals : (rest.map fun v => v.category).sum + (13 * (names.length + 1) + 43) ≤ R.locals) (hRcells : cells + 1 ≤ R.cells) (hRslots : slots + 6 ≤ R.slots) (hlocks : meth.locks = false)
    (hx : ∀ t : State, s.vm.Alike t.vm → H.size ≤ t.heap.size → (∀ q : Nat, q < H.size → t.heap[q]? = H[q]?) → XC cls s t)
    (hf : ∀ z ∈ locs, free z.base) (hc : cells + 1 ≤ mc) (hs : slots + 6 ≤ ms) :
    W p l e R s m args below meth c H locs cells slots (vx_MQ below Qc XC args s mc ms free) (F0 m pc ls rest) := by
  intro T hT X
  have htr : e.platform.stackTraces = false := (show e.platform.stackTraces = l.stackTraces by rw [X.admits.platform]).trans hl
  have Y := vx_rebase X (R' := { frames := R.frames, locals := R.locals, cells := 1, slots := 6 }) (Nat.le_refl _) (Nat.le_refl _) hRcells hRslots
  obtain ⟨s', hA⟩ : ∃ z, z = (T.setVm s.vm).setFrames (.invoking m args :: below) := ⟨_, rfl⟩
  rw [← hA] at Y
  have hvm : s'.vm = s.vm := by rw [hA]; rfl
  have hhp : s'.heap = H := by rw [hA]; exact hT
  have hW0 : s.WarmedH s'.vm := by rw [hvm]; exact State.WarmedH.refl s
  have hat' : ∀ w ∈ vx_atS own ic cls names, w.before args s' = true := fun w hw => vx_ot_at hW0 hvm.symm (hgood w (List.mem_cons_of_mem _ (List.mem_cons_of_mem _ hw))) (hat w hw)
  have hk' : (Cond.classLink own ik cls).before args s' = true := vx_ot_at hW0 hvm.symm (hgood _ List.mem_cons_self) hk
  have hini' : (Cond.initialized cls).before args s' = true := vx_ot_at hW0 hvm.symm (hgood _ (List.mem_cons_of_mem _ List.mem_cons_self)) hini
  have hU' : vx_Zq Bundle.tN "UNASSIGNED_STACK" Bundle.steD A s' s'.heap := by rw [hhp]; exact vx_Zq.moved hW0.alike (hU.kept hS.2.1)
  have hN' : vx_Zq Bundle.tN "SUPPRESSED_SENTINEL" Bundle.listD A s' s'.heap := by rw [hhp]; exact vx_Zq.moved hW0.alike (hN.kept hS.2.1)
  have h : ∀ w ∈ Bundle.ownAtoms own ic cls names, w.before args s' = true := vx_own hat' (vx_isRefq hU'.1) (vx_isRefq hN'.1) hU'.2.word hN'.2.word
  have hown' : s'.vm.findClass own = some m.cls := by rw [hvm]; exact hown
  have hins : (Cond.instantiable cls 6).before args s' = true := h _ (by simp [Bundle.ownAtoms])
  obtain ⟨vm₁, cX, kX, hfX, hkX, -, -, X₁, st1⟩ := Y.newCold hexec (own := own) (C := cls) (index := ik) (n := 6) hown' hk' hins hini'
    (g := F0 m pc ls rest) rfl (by rw [hb]; exact d0) (Nat.le_refl _) (Nat.le_refl _)
  generalize hT1 : (T.setVm vm₁).pushCell { cls := cX, slots := kX.instanceTypes.map defaultValue, vm := .none } = T1 at X₁ st1
  have hcat : (Value.ref T.heap.size).category = 1 := rfl
  have hcellA : T1.heap[T.heap.size]? = some (freshCell cX kX) := by rw [← hT1]; exact State.heap_pushCell_size _ _
  have d3' : decode c.code (pc + 3) = .ok (.dup, 1) := by rw [hb]; exact d3
  have d4' : decode c.code (pc + 4) = .ok (.ldc is, 2) := by rw [hb]; exact d4
  have hstr' : vk_R own is text sa s' := vk_R.warm hW0 hstr
  obtain ⟨U, hsteps, hrun, hend, hW, hsame, ce, hce, hO⟩ := X₁.ctorThrowS hexec htr (own := own) (cls := cls) (names := names) (ic := ic) hown' hcls hnames h (fun x hx => nomatch hx) hfX hkX hcellA (by rw [hhp, hT]; exact Nat.le_refl _) (msg := .ref sa) rfl
    (g := { method := m, pc := pc + 6, locals := ls, stack := .ref sa :: .ref T.heap.size :: .ref T.heap.size :: rest, locked := none }) rfl hsize rfl rfl (rest := rest) rfl
    (by rw [hb]; exact d6) (by rw [hb]; exact d9) hout hRframes (by simp only [List.map_cons, List.sum_cons, hcat]; omega) hlocks
  obtain ⟨f1, f2⟩ := vx_frame hsame
  rw [hhp] at f1 f2
  have hWs : s.WarmedH U.vm := State.WarmedH.trans hW0 hW
  have hcl : s.vm.findClass cls = some ce.cls := by
    have h9 := hO.cls
    rw [hvm] at h9
    exact h9
  have hall : s.sameButNew ({ U with vm := s.vm } : State) locs mc ms := by
    subst hA
    obtain ⟨e1, e2⟩ := hsame
    rw [State.setFrames_setFrames] at e1
    have h2 : (T.setVm s.vm).sameButNew ({ U with vm := s.vm } : State) [] (0 + 1) (0 + 6) := ⟨e1, e2⟩
    have h3 := X.same.trans h2
    rw [List.append_nil] at h3
    exact h3.mono hc hs
  refine ⟨U, ?_, .threw T.heap.size, hrun, hend, Or.inr ⟨T.heap.size, rfl, cls, ce, locs, hx U hWs.alike f1 (fun q hq => f2 q hq (fun z hz => nomatch hz)), hce, hO.vm, hcl, hWs, hall, hf⟩⟩
  refine st1 _ ?_
  show Steps p.tables e below (T1.setTop { method := m, pc := pc + 3, locals := ls, stack := .ref T.heap.size :: rest, locked := none }) _
  jvm_step X₁.here [X₁.here.top, hexec, d3', Value.category]
  exact X₁.ldcString hexec (own := own) (text := text) (index := is) (a := sa) hown' hstr'.1 hstr'.2
    (g := { method := m, pc := pc + 4, locals := ls, stack := .ref T.heap.size :: .ref T.heap.size :: rest, locked := none }) rfl d4' _ hsteps
/-- 'throw new E("text")', the text by a wide index -/
theorem vx_throwSW {cc : ByteArray} {pc : Nat} (hexec : p.tables.exec = Jvm.exec) (hb : c.code = cc) (hl : l.stackTraces = false) {own cls text : String} {names : List String} {ik is ic mc ms sa : Nat} {A : Nat → Prop}
    (hown : s.vm.findClass own = some m.cls) (hcls : Bundle.fit cls = true) (hnames : ∀ n ∈ names, Bundle.fit n = true)
    (hk : (Cond.classLink own ik cls).before args s = true) (hini : (Cond.initialized cls).before args s = true) (hstr : vk_R own is text sa s) (hat : ∀ w ∈ vx_atS own ic cls names, w.before args s = true)
    (hgood : ∀ w ∈ Cond.classLink own ik cls :: Cond.initialized cls :: vx_atS own ic cls names, vx_ot w = true)
    (hU : vx_Zq Bundle.tN "UNASSIGNED_STACK" Bundle.steD A s s.heap) (hN : vx_Zq Bundle.tN "SUPPRESSED_SENTINEL" Bundle.listD A s s.heap) (hS : va_S A s.heap H locs) (hsize : ls.size = c.maxLocals)
    (d0 : decode cc pc = .ok (.new ik, 3)) (d3 : decode cc (pc + 3) = .ok (.dup, 1)) (d4 : decode cc (pc + 4) = .ok (.ldc_w is, 3)) (d7 : decode cc (pc + 7) = .ok (.invokespecial ic, 3)) (d10 : decode cc (pc + 10) = .ok (.athrow, 1))
    (hout : ∀ x ∈ c.exceptionTable.toList, covers x (pc + 10) = false)
    (hRframes : names.length + 3 < R.frames) (hRlocals : (rest.map fun v => v.category).sum + (13 * (names.length + 1) + 43) ≤ R.locals) (hRcells : cells + 1 ≤ R.cells) (hRslots : slots + 6 ≤ R.slots) (hlocks : meth.locks = false)
    (hx : ∀ t : State, s.vm.Alike t.vm → H.size ≤ t.heap.size → (∀ q : Nat, q < H.size → t.heap[q]? = H[q]?) → XC cls s t)
    (hf : ∀ z ∈ locs, free z.base) (hc : cells + 1 ≤ mc) (hs : slots + 6 ≤ ms) :
    W p l e R s m args below meth c H locs cells slots (vx_MQ below Qc XC args s mc ms free) (F0 m pc ls rest) := by
  intro T hT X
  have htr : e.platform.stackTraces = false := (show e.platform.stackTraces = l.stackTraces by rw [X.admits.platform]).trans hl
  have Y := vx_rebase X (R' := { frames := R.frames, locals := R.locals, cells := 1, slots := 6 }) (Nat.le_refl _) (Nat.le_refl _) hRcells hRslots
  obtain ⟨s', hA⟩ : ∃ z, z = (T.setVm s.vm).setFrames (.invoking m args :: below) := ⟨_, rfl⟩
  rw [← hA] at Y
  have hvm : s'.vm = s.vm := by rw [hA]; rfl
  have hhp : s'.heap = H := by rw [hA]; exact hT
  have hW0 : s.WarmedH s'.vm := by rw [hvm]; exact State.WarmedH.refl s
  have hat' : ∀ w ∈ vx_atS own ic cls names, w.before args s' = true := fun w hw => vx_ot_at hW0 hvm.symm (hgood w (List.mem_cons_of_mem _ (List.mem_cons_of_mem _ hw))) (hat w hw)
  have hk' : (Cond.classLink own ik cls).before args s' = true := vx_ot_at hW0 hvm.symm (hgood _ List.mem_cons_self) hk
  have hini' : (Cond.initialized cls).before args s' = true := vx_ot_at hW0 hvm.symm (hgood _ (List.mem_cons_of_mem _ List.mem_cons_self)) hini
  have hU' : vx_Zq Bundle.tN "UNASSIGNED_STACK" Bundle.steD A s' s'.heap := by rw [hhp]; exact vx_Zq.moved hW0.alike (hU.kept hS.2.1)
  have hN' : vx_Zq Bundle.tN "SUPPRESSED_SENTINEL" Bundle.listD A s' s'.heap := by rw [hhp]; exact vx_Zq.moved hW0.alike (hN.kept hS.2.1)
  have h : ∀ w ∈ Bundle.ownAtoms own ic cls names, w.before args s' = true := vx_own hat' (vx_isRefq hU'.1) (vx_isRefq hN'.1) hU'.2.word hN'.2.word
  have hown' : s'.vm.findClass own = some m.cls := by rw [hvm]; exact hown
  have hins : (Cond.instantiable cls 6).before args s' = true := h _ (by simp [Bundle.ownAtoms])
  obtain ⟨vm₁, cX, kX, hfX, hkX, -, -, X₁, st1⟩ := Y.newCold hexec (own := own) (C := cls) (index := ik) (n := 6) hown' hk' hins hini'
    (g := F0 m pc ls rest) rfl (by rw [hb]; exact d0) (Nat.le_refl _) (Nat.le_refl _)
  generalize hT1 : (T.setVm vm₁).pushCell { cls := cX, slots := kX.instanceTypes.map defaultValue, vm := .none } = T1 at X₁ st1
  have hcat : (Value.ref T.heap.size).category = 1 := rfl
  have hcellA : T1.heap[T.heap.size]? = some (freshCell cX kX) := by rw [← hT1]; exact State.heap_pushCell_size _ _
  have d3' : decode c.code (pc + 3) = .ok (.dup, 1) := by rw [hb]; exact d3
  have d4' : decode c.code (pc + 4) = .ok (.ldc_w is, 3) := by rw [hb]; exact d4
  have hstr' : vk_R own is text sa s' := vk_R.warm hW0 hstr
  obtain ⟨U, hsteps, hrun, hend, hW, hsame, ce, hce, hO⟩ := X₁.ctorThrowS hexec htr (own := own) (cls := cls) (names := names) (ic := ic) hown' hcls hnames h (fun x hx => nomatch hx) hfX hkX hcellA (by rw [hhp, hT]; exact Nat.le_refl _) (msg := .ref sa) rfl
    (g := { method := m, pc := pc + 7, locals := ls, stack := .ref sa :: .ref T.heap.size :: .ref T.heap.size :: rest, locked := none }) rfl hsize rfl rfl (rest := rest) rfl
    (by rw [hb]; exact d7) (by rw [hb]; exact d10) hout hRframes (by simp only [List.map_cons, List.sum_cons, hcat]; omega) hlocks
  obtain ⟨f1, f2⟩ := vx_frame hsame
  rw [hhp] at f1 f2
  have hWs : s.WarmedH U.vm := State.WarmedH.trans hW0 hW
  have hcl : s.vm.findClass cls = some ce.cls := by
    have h9 := hO.cls
    rw [hvm] at h9
    exact h9
  have hall : s.sameButNew ({ U with vm := s.vm } : State) locs mc ms := by
    subst hA
    obtain ⟨e1, e2⟩ := hsame
    rw [State.setFrames_setFrames] at e1
    have h2 : (T.setVm s.vm).sameButNew ({ U with vm := s.vm } : State) [] (0 + 1) (0 + 6) := ⟨e1, e2⟩
    have h3 := X.same.trans h2
    rw [List.append_nil] at h3
    exact h3.mono hc hs
  refine ⟨U, ?_, .threw T.heap.size, hrun, hend, Or.inr ⟨T.heap.size, rfl, cls, ce, locs, hx U hWs.alike f1 (fun q hq => f2 q hq (fun z hz => nomatch hz)), hce, hO.vm, hcl, hWs, hall, hf⟩⟩
  refine st1 _ ?_
  show Steps p.tables e below (T1.setTop { method := m, pc := pc + 3, locals := ls, stack := .ref T.heap.size :: rest, locked := none }) _
  jvm_step X₁.here [X₁.here.top, hexec, d3', Value.category]
  exact X₁.ldcStringW hexec (own := own) (text := text) (index := is) (a := sa) hown' hstr'.1 hstr'.2
    (g := { method := m, pc := pc + 4, locals := ls, stack := .ref T.heap.size :: .ref T.heap.size :: rest, locked := none }) rfl d4' _ hsteps
end Ends
section Bodies
variable {l : Launch}
theorem vx_ofW {y : MethodName} {ws ws' : List Cond} {rm : Room} {Pc : Array Value → State → Prop} {Qc : Array Value → State → Outcome → State → Prop} {XC : String → State → State → Prop} {mc ms : Nat} {free : Addr → Prop} {cc : ByteArray} {maxL : Nat} {ret : Option FieldType}
    (hy : plainName y.cls = true) (hw : ws = Cond.code y cc maxL ret :: ws')
    (body : ∀ p e s m args below meth c s₁, BodyLoose p l y (headSpec ws rm) cc maxL ret e s m args below meth c s₁ → c.maxLocals = maxL → (∀ x ∈ c.exceptionTable.toList, False) → Pc args s →
      W p l e (headSpec ws rm).room s m args below meth c s.heap [] 0 0 (vx_MQ below Qc XC args s mc ms free) (entryFrame m args maxL)) : vx_Met l y ws rm Pc Qc XC mc ms free := by
  refine MetFree.of_bodyS (code := cc) (maxLocals := maxL) (ret := ret) hy ?_ ?_
  · intro args s m h hn
    obtain ⟨meth, c, h1, h2, h3, h4, h5, h6, -, -⟩ := Cond.code_spec hn (atoms_spec (ws := ws) h _ (by rw [hw]; exact List.mem_cons_self))
    exact ⟨meth, c, h1, h2, h3, h4, h5, h6⟩
  · intro p e s m args below meth c s₁ B hml hP _
    have hh0 : s₁.heap = s.heap := by rw [B.state]; rfl
    have ht : ∀ x ∈ c.exceptionTable.toList, False := by
      obtain ⟨meth9, c9, h1, h2, -, -, -, -, h7, -⟩ := Cond.code_spec B.named (atoms_spec (ws := ws) B.pre _ (by rw [hw]; exact List.mem_cons_self))
      cases Option.some.inj (h1.symm.trans B.method)
      cases Option.some.inj (h2.symm.trans (Stand.of_body B).code)
      intro x hx
      rw [Array.isEmpty_iff.mp h7] at hx
      cases hx
    obtain ⟨t, a1, o, b1, b2, b3⟩ := body p e s m args below meth c s₁ B hml ht hP s₁ hh0 (Stand.of_body B)
    exact ⟨t, o, a1, b1, b2, b3⟩
/-- the table of a body with handlers -/
theorem vx_table {p : Program} {x y : MethodName} {S : Spec} {cc bytes : ByteArray} {maxL maxL' : Nat} {ret ret' : Option FieldType} {e : Env} {s s₁ : State} {m : MethodId} {args : Array Value} {below : List Frame} {meth : Method} {c : Code} {hh : List (Nat × Nat × Nat × Nat)}
    (B : BodyLoose p l y S cc maxL ret e s m args below meth c s₁) (h : (Cond.codeWith y bytes maxL' ret' hh).before args s = true) : c.exceptionTable.toList = tableOf hh := by
  obtain ⟨m9, meth9, c9, hn9, h1, h2, -, -, h6, -⟩ := Cond.codeWith_spec h
  cases Option.some.inj (hn9.symm.trans B.named)
  cases Option.some.inj (h1.symm.trans B.method)
  cases Option.some.inj (h2.symm.trans (Stand.of_body B).code)
  rw [← h6, table_eq]
end Bodies
end VXA
/-! ===== END ===== -/
/-! ===== BEGIN a static call of a method with an exception table ===== -/
section VXS
variable {p : Program} {l : Launch} {e : Env} {R : Room} {s : State} {m : MethodId} {args : Array Value} {below : List Frame} {meth : Method} {c : Code} {T : State} {H : Heap} {locs : List Loc} {cells slots : Nat}
abbrev vx_CSW (R : Room) (s : State) (args : Array Value) (own : String) (index : Nat) (y : MethodName) (bytes : ByteArray) (maxL : Nat) (ret : Option FieldType) (hh : List (Nat × Nat × Nat × Nat)) (ws : List Cond) (rm : Room) (mc ms n : Nat) : Prop :=
  (rm.cells = mc ∧ rm.slots = ms ∧ rm.frames + 1 ≤ R.frames ∧ 8 + (maxL + 11) + rm.locals ≤ R.locals ∧ (∀ w ∈ ws, ∀ (a' : Array Value) (U : State), s.WarmedH U.vm → w.before a' U = true) ∧ Cond.codeWith y bytes maxL ret hh ∈ ws) ∧
  (Cond.codeWith y bytes maxL ret hh).before args s = true ∧ (Cond.initialized y.cls).before args s = true ∧ (y.cls ≠ "java/lang/invoke/MethodHandle" ∧ y.cls ≠ "java/lang/invoke/VarHandle") ∧
  (∀ sig, parseMethodDescriptor y.desc = some sig → n = sig.parameters.length) ∧ (Cond.methodLink own index y).before args s = true ∧ (Cond.static y).before args s = true
theorem vx_cwSW {own : String} {index maxL mc ms : Nat} {y : MethodName} {bytes : ByteArray} {ret : Option FieldType} {hh : List (Nat × Nat × Nat × Nat)} {Ts ws ws' : List Cond} {rm : Room} (n : Nat) (ht : ∀ w ∈ Ts, w.before args s = true) (hT : GoodIn Ts (va_wsS own index y ws)) (hw : ws = Cond.codeWith y bytes maxL ret hh :: ws') (hrc : rm.cells = mc) (hrs : rm.slots = ms)
    (hd : y.cls ≠ "java/lang/invoke/MethodHandle" ∧ y.cls ≠ "java/lang/invoke/VarHandle" ∧ (parseMethodDescriptor y.desc).map (fun d => d.parameters.length) = some n) (hR : rm.frames + 1 ≤ R.frames ∧ 8 + (maxL + 11) + rm.locals ≤ R.locals) :
    vx_CSW R s args own index y bytes maxL ret hh ws rm mc ms n := by
  have ok : ∀ w ∈ va_wsS own index y ws, w.before args s = true := fun w h => ht w (hT w h).1
  have hG : GoodIn Ts ws := fun w h => hT w (by unfold va_wsS; exact List.mem_append_right _ h)
  have hc : Cond.codeWith y bytes maxL ret hh ∈ ws := by rw [hw]; exact List.mem_cons_self
  refine ⟨⟨hrc, hrs, hR.1, hR.2, pay_in ht hG, hc⟩, ht _ (hG _ hc).1, ok _ (by simp [va_wsS]), ⟨hd.1, hd.2.1⟩, fun sig h => ?_, ok _ (by simp [va_wsS]), ok _ (by simp [va_wsS])⟩
  have h2 := hd.2.2
  rw [h] at h2
  exact (Option.some.inj h2).symm
theorem vx_callSW (X : Stand p l e R s m args below meth c T locs cells slots) (hexec : p.tables.exec = Jvm.exec) {own : String} {index : Nat} {y : MethodName} {bytes : ByteArray} {maxL : Nat} {ret : Option FieldType} {hh : List (Nat × Nat × Nat × Nat)}
    (hown : s.vm.findClass own = some m.cls) (hlink : (Cond.methodLink own index y).before args s = true) (hstat : (Cond.static y).before args s = true) (hinit : (Cond.initialized y.cls).before args s = true)
    (hcode : (Cond.codeWith y bytes maxL ret hh).before args s = true) (hy : y.cls ≠ "java/lang/invoke/MethodHandle" ∧ y.cls ≠ "java/lang/invoke/VarHandle")
    {W9 : Nat} {Pre : Pt → Array Value → Prop} {Post : Pt → Array Value → Option Value → Pt → Prop} (hK : Back l R p e below s args y 3 W9 Pre Post)
    {g : JFrame} (hg : g.method = m) (hsize : g.locals.size = c.maxLocals) {argsL rest : List Value} (hlen : ∀ sig, parseMethodDescriptor y.desc = some sig → argsL.length = sig.parameters.length)
    (hstack : g.stack = argsL.reverse ++ rest) (hW : 2 * g.monitorRoom + (rest.map fun v => v.category).sum ≤ W9) (hdg : decode c.code g.pc = .ok (.invokestatic index, 3))
    (hpre : ∀ vm₁, s.WarmedH vm₁ → Pre ⟨T.setVm vm₁, locs, cells, slots⟩ argsL.toArray) :
    ∃ (v : Option Value) (vm₁ : Vm) (B : Pt), s.WarmedH vm₁ ∧ Stand p l e R s m args below meth c B.U B.locs B.cells B.slots ∧ Post ⟨T.setVm vm₁, locs, cells, slots⟩ argsL.toArray v B ∧
      ∀ target, Steps p.tables e below (B.U.setTop { g with pc := g.pc + 3, stack := v.toList ++ rest }) target → Steps p.tables e below (T.setTop g) target := by
  obtain ⟨mk, methM, cM, hnamed, hmethM, -, -, -, -, -, -, hsigM⟩ := Cond.codeWith_spec hcode
  have hstatic : methM.isStatic = true := Cond.static_spec hnamed hmethM hstat
  obtain ⟨kP, hkP, -⟩ := className_of_methodNamed hnamed
  have hinitP : kP.init = .initialized := Cond.initialized_spec (findClass_of_methodNamed hnamed) hkP hinit
  obtain ⟨vm₁, X₁, hstep₁⟩ := X.invokestatic hexec hown hlink hnamed hmethM hstatic hkP hinitP hy (g := g) hg (argsL := argsL) (rest := rest) (hlen _ hsigM) hstack hdg
  obtain ⟨v, B, X', hpost, hsteps⟩ := hK m meth c ⟨T.setVm vm₁, locs, cells, slots⟩ { g with stack := rest } (.invokestatic index) mk argsL.toArray X₁ hg hsize hdg hW (X₁.named hnamed) (hpre vm₁ X₁.warmed)
  exact ⟨v, vm₁, B, X₁.warmed, X', hpost, fun target h => hstep₁ _ fun acts => by rw [doInvoke_state]; exact hsteps.trans h⟩
theorem vx_runSW {y : MethodName} {bytes cc : ByteArray} {maxL nL mc ms n index : Nat} {ret : Option FieldType} {hh : List (Nat × Nat × Nat × Nat)} {ws : List Cond} {rm : Room} {Pc : Array Value → State → Prop} {Qc : Array Value → State → Outcome → State → Prop} {free : Addr → Prop} {Ts : List Cond} {own : String} {As rest : List Value} {g : JFrame}
    (S : CallFix p m c cc nL s args Ts own) (hM : Met l y ws rm Pc Qc mc ms free) (cw : vx_CSW R s args own index y bytes maxL ret hh ws rm mc ms n) (hp : PreS s H Pc As)
    (hg : g.method = m) (hn : As.length = n) (hsize : g.locals.size = nL) (hstack : g.stack = As.reverse ++ rest) (hW : 2 * g.monitorRoom + (rest.map fun v => v.category).sum ≤ 8) (hdg : decode cc g.pc = .ok (.invokestatic index, 3)) (hf : cells + mc ≤ R.cells ∧ slots + ms ≤ R.slots) :
    va_Run p l e R s m args below meth c H locs cells slots mc ms g rest (Qc As.toArray) (free) := by
  obtain ⟨⟨hrc, hrs, hfr, hlo, hws, hcw⟩, hcode, hini, hy, hlen, hl, hstt⟩ := cw
  have hK : Back l R p e below s args y 3 8 (PreOf R mc ms Pc) (PostOf Qc mc ms free) := va_backW (hh := hh) (bytes := bytes) (maxL := maxL) (ret := ret) hM hp.1 hrc hrs hfr hlo hws hcw (fun a' U hW => word_at hW (Or.inl (by first | rfl | simp [Cond.onTables, Cond.keeps, Cond.steady])) hini)
  obtain ⟨hx, hb, hml, ho, -⟩ := S
  intro T hT X
  obtain ⟨v, vm₁, ⟨U', l2, c2, s2⟩, hW₁, X', ⟨g', mk, t, L, e1, e2, hq, h1, hL, h2, h3⟩, st⟩ := vx_callSW X hx (hh := hh) (bytes := bytes) (maxL := maxL) (ret := ret) ho hl hstt hini hcode hy hK hg (hsize.trans hml.symm) (argsL := As) (rest := rest) (fun sig h => hn.trans (hlen sig h)) hstack hW (by rw [hb]; exact hdg)
    (fun vm₁ hW₁ => ⟨hf.1, hf.2, hp.2 (T.setVm vm₁) hT hW₁⟩)
  dsimp only [Pt.U, Pt.locs, Pt.cells, Pt.slots] at X' e1 e2 h1 h2 h3 st
  subst h1; subst h2; subst h3
  exact ⟨v, (T.setVm vm₁).calling g' mk As.toArray, t, U', L, hT, X', hL, e1, e2, hq, st⟩
/-- not caught here, past rows that name other classes: it goes on to the caller -/
theorem vx_outP {p : Program} {l : Launch} {e : Env} {R : Room} {s : State} {m : MethodId} {args : Array Value} {below : List Frame} {meth : Method} {c : Code} {H : Heap} {locs : List Loc} {cells slots : Nat} {free : Addr → Prop} {ls : Array Slot} {rest : List Value} {Qc : Array Value → State → Outcome → State → Prop} {XC : String → State → State → Prop}
    {pc : Nat} {own E : String} {ce : Cell} {q : Addr} {mc ms : Nat} (hown : s.vm.findClass own = some m.cls) (hlocks : meth.locks = false)
    (hpass : ∀ z ∈ c.exceptionTable.toList, covers z pc = false ∨ (z.catchType ≠ 0 ∧ ∃ nm : String, (Cond.classLink own z.catchType nm).before args s = true ∧ va_Nc E nm s)) (hcell : H[q]? = some ce) (hv : ce.vm = .none) (hcl : s.vm.findClass E = some ce.cls)
    (hx : ∀ t : State, t.heap = H → s.vm.Alike t.vm → XC E s t) (hf : ∀ z ∈ locs, free z.base) (hc : cells ≤ mc) (hs : slots ≤ ms) :
    vx_W p l e R s m args below meth c H locs cells slots (vx_MQ below Qc XC args s mc ms free) (F0 m pc ls rest) q := by
  intro T hT X
  have hpl : e.platform.magicAccessors = ({} : Platform).magicAccessors := by rw [X.admits.platform]
  obtain ⟨vm', hW', X', st⟩ := Jvm.Stand.outThrough X hlocks q (g := F0 m pc ls rest) rfl rfl rfl (cell := ce) (by rw [hT]; exact hcell) (by rw [hv]; rfl)
    (by obtain ⟨k9, h9, -⟩ := Vm.findClass_spec hcl; exact ⟨k9, h9⟩) (fun z hz => by
      rcases hpass z hz with h | ⟨hz0, nm, hl1, hn1⟩
      · exact Or.inl h
      · obtain ⟨c6, hc6, hcl6⟩ := Cond.classLink_spec hown hl1 e.platform hpl
        obtain ⟨a8, b8, h1, h2, h3⟩ := hn1
        cases Option.some.inj (h1.symm.trans hcl)
        cases Option.some.inj (h2.symm.trans hc6)
        exact Or.inr ⟨hz0, _, hcl6, h3⟩)
  obtain ⟨g₀, hfr⟩ := X'.frames_eq
  have hcell9 : ((T.setVm vm').setFrames (.throwing q :: below)).heap[q]? = some ce := by
    show T.heap[q]? = some ce
    rw [hT]; exact hcell
  have hend : Ended ((T.setVm vm').setFrames (.throwing q :: below)) below (.threw q) := State.frames_setFrames _ (State.cur_lt_of_frames hfr)
  refine ⟨(T.setVm vm').setFrames (.throwing q :: below), ?_, .threw q, X'.here.running, hend, Or.inr ⟨q, rfl, E, ce, locs, hx _ hT (X'.ends _).1.alike, hcell9, hv, hcl, (X'.ends _).1, (X'.ends _).2.mono hc hs, hf⟩⟩
  rw [X.pushThrowing_eq]
  exact st
/-- a thing of a world lies in the heap -/
theorem vx_lt {D : va_G} {cl : List vw_C} {ws : va_W} {H1 : Heap} (h : va_P D cl ws H1) {k : Nat} {q : Nat × va_E} (hk : ws[k]? = some q) : q.1 < H1.size := (h k q hk).lt
end VXS
/-! ===== END ===== -/
/-! ===== BEGIN methods with a table of their own: called by a name, returning or throwing ===== -/
section VXH
/-! vx_backW, vx_callVX, vx_callSX, vx_callVW, vx_runVW, vx_runVX, vx_runSX, vx_ofWH follow the same proofs as their sisters above (Free/Laws.lean, Shelf42/LK1.lean); vx_outP calls Shelf42/NT130.lean (outThrough). -/
section
variable {l : Launch} {R : Room} {p : Program} {e : Env} {below : List Frame} {s : State} {sargs : Array Value} {y : MethodName} {len W9 : Nat}
theorem vx_backW {ws : List Cond} {rm : Room} {Pc : Array Value → State → Prop} {Qc : Array Value → State → Outcome → State → Prop} {XC : String → State → State → Prop} {mc ms : Nat} {free : Addr → Prop} {bytes : ByteArray} {maxL : Nat} {ret : Option FieldType} {hh : List (Nat × Nat × Nat × Nat)}
    (hM : vx_Met l y ws rm Pc Qc XC mc ms free) (hblind : FrameBlind Pc) (hrc : rm.cells = mc) (hrs : rm.slots = ms)
    (hframes : rm.frames + 1 ≤ R.frames) (hlocals : W9 + (maxL + 11) + rm.locals ≤ R.locals)
    (hws : ∀ w ∈ ws, ∀ a' U, s.WarmedH U.vm → w.before a' U = true) (hcode : Cond.codeWith y bytes maxL ret hh ∈ ws) (hinit : ∀ a' U, s.WarmedH U.vm → (Cond.initialized y.cls).before a' U = true) :
    vx_Back l R p e below s sargs y len W9 (PreOf R mc ms Pc) (PostOf Qc mc ms free) (vx_Post XC mc ms free) := by
  intro m meth c A g ig mk a X hg hsize hdg hW hn hp
  have h1 : (headSpec ws rm).pre.before a A.U = true := atoms_intro fun w hw => hws w hw _ _ X.warmed
  have h2 : (Cond.codeWith y bytes maxL ret hh).before a A.U = true := hws _ hcode _ _ X.warmed
  have h3 : (Cond.initialized y.cls).before a A.U = true := hinit _ _ X.warmed
  have h4 : A.cells + (headSpec ws rm).room.cells ≤ R.cells := by rw [show (headSpec ws rm).room.cells = mc from hrc]; exact hp.1
  have h5 : A.slots + (headSpec ws rm).room.slots ≤ R.slots := by rw [show (headSpec ws rm).room.slots = ms from hrs]; exact hp.2.1
  have hPc : Pc a (A.U.calling g mk a) := hblind _ _ _ _ hp.2.2
  obtain ⟨U, Ls, c0, s0⟩ := A
  dsimp only [Pt.U, Pt.locs, Pt.cells, Pt.slots] at h1 h2 h3 h4 h5 X hn hPc ⊢
  obtain ⟨m9, methY, cY, hn9, hmY, hcY, -, hlY, -⟩ := Cond.codeWith_spec h2
  cases Option.some.inj (hn9.symm.trans hn)
  obtain ⟨kY, hkY, -⟩ := className_of_methodNamed hn
  have hinitY : kY.init = .initialized := Cond.initialized_spec (findClass_of_methodNamed hn) hkY h3
  have h : At U g.method c below := by rw [hg]; exact X.here
  have hlocals9 : W9 + (maxL + 11) + (headSpec ws rm).room.locals ≤ R.locals := hlocals
  have happ : (headSpec ws rm).appliesLoose y e.platform (U.calling g mk a) = true :=
    Spec.appliesLoose_calling (g := g) h hdg hn hkY hinitY
      (X.room_calling (g := g) (R' := (headSpec ws rm).room) hsize hmY hcY hframes (by rw [hlY]; omega) h4 h5) h1
  obtain ⟨mid, hmid⟩ := h.above
  have hfr : (U.setTop g).frames = (.java g :: mid) ++ below := by rw [State.frames_setTop' g h.top, hmid]; rfl
  obtain ⟨o, s₂, hsteps, -, hend, hq⟩ := Steps.callFree hM p X.admits X.cas X.clock (acts := []) hfr happ hPc trivial
  have hq' : vx_Q Qc XC mc ms free a (U.calling g mk a) o s₂ := hq
  rw [State.frames_setTop' g h.top] at hend
  obtain ⟨g₀, hg0⟩ := Option.isSome_iff_exists.mp h.top
  obtain ⟨r, hr⟩ := State.topJava?_eq_some.mp hg0
  have hr' : (({ U with heap := s₂.heap, slotsUsed := s₂.slotsUsed } : State).setVm s₂.vm).frames = .java g₀ :: r := hr
  rcases hq' with ⟨hqc, L, hfe, hL⟩ | ⟨q, rfl, E, ce, L, hx, hce, hcv, hcl, hW₂, hsm, hL⟩
  · obtain ⟨⟨v, rfl⟩, hW₂, e2, q2, q3, q4, q5, q6⟩ := id hfe
    have e3 : s₂ = ({ (U.calling g mk a).setFrames s₂.frames with heap := s₂.heap, slotsUsed := s₂.slotsUsed } : State).setVm s₂.vm := by
      have : s₂ = ({ s₂ with vm := (U.calling g mk a).vm } : State).setVm s₂.vm := rfl
      rw [e2] at this
      exact this
    obtain ⟨c₂, i₂, len₂, hc₂, hd₂, hf₂⟩ := hend
    have hW' : U.WarmedH s₂.vm := hW₂
    have hcc : c₂ = c := by
      have h1 : s₂.code? g.method = U.code? g.method := by
        rw [State.code?_eq, State.code?_eq, hW'.alike.method?]
      exact Option.some.inj (hc₂.symm.trans (h1.trans h.code))
    subst hcc
    have hlen : len₂ = len := by rw [hdg] at hd₂; cases hd₂; rfl
    subst hlen
    have hs₂ : s₂ = (({ U with heap := s₂.heap, slotsUsed := s₂.slotsUsed } : State).setVm s₂.vm).setTop { g with pc := g.pc + len₂, stack := v.toList ++ g.stack } := by
      refine e3.trans ?_
      rw [hf₂, State.calling_eq h.top, State.setFrames_setFrames, State.setTop_of_frames _ hr', hr]
      rfl
    have hsame : U.sameButNew ({ U with heap := s₂.heap, slotsUsed := s₂.slotsUsed } : State) L mc ms := by
      refine ⟨?_, q2, q3, q4, q5, q6⟩
      obtain ⟨t, ht, -⟩ := State.frames_cons hr
      show ({ U with heap := s₂.heap, slotsUsed := s₂.slotsUsed } : State) = { U.setFrames U.frames with heap := s₂.heap, slotsUsed := s₂.slotsUsed }
      rw [State.setFrames_self ht]
    subst hg
    refine Or.inl ⟨v, ⟨(({ U with heap := s₂.heap, slotsUsed := s₂.slotsUsed } : State).setVm s₂.vm), Ls ++ L, c0 + mc, s0 + ms⟩,
      ⟨X.admits, X.cas, X.clock, X.frames, X.room, X.hears, X.method, X.code, (X.here.setHeapUsed s₂.heap s₂.slotsUsed).setVm hW'.alike, X.tail, State.WarmedH.trans X.warmed hW', X.limits, X.bytes, X.same.trans (hsame.setVm s.vm)⟩,
      ⟨g, mk, s₂, L, rfl, rfl, hqc, rfl, hL, rfl, rfl⟩, ?_⟩
    show Steps p.tables e below _ ((({ U with heap := s₂.heap, slotsUsed := s₂.slotsUsed } : State).setVm s₂.vm).setTop { g with pc := g.pc + len₂, stack := v.toList ++ g.stack })
    rw [← hs₂]
    exact hsteps
  · obtain ⟨e2, q2, q3, q4, q5, q6⟩ := id hsm
    have e3 : s₂ = ({ (U.calling g mk a).setFrames s₂.frames with heap := s₂.heap, slotsUsed := s₂.slotsUsed } : State).setVm s₂.vm := by
      have : s₂ = ({ s₂ with vm := (U.calling g mk a).vm } : State).setVm s₂.vm := rfl
      rw [e2] at this
      exact this
    have hf₂ : s₂.frames = .throwing q :: .java g :: U.frames.tail := hend
    have hW' : U.WarmedH s₂.vm := hW₂
    have hs₂ : s₂ = ((({ U with heap := s₂.heap, slotsUsed := s₂.slotsUsed } : State).setVm s₂.vm).setTop g).pushFrame (.throwing q) := by
      refine e3.trans ?_
      rw [hf₂, State.calling_eq h.top, State.setFrames_setFrames, State.pushFrame, State.frames_setTop _ hr', State.setTop_of_frames _ hr', State.setFrames_setFrames, hr]
      rfl
    have hsame : U.sameButNew ({ U with heap := s₂.heap, slotsUsed := s₂.slotsUsed } : State) L mc ms := by
      refine ⟨?_, q2, q3, q4, q5, q6⟩
      obtain ⟨t, ht, -⟩ := State.frames_cons hr
      show ({ U with heap := s₂.heap, slotsUsed := s₂.slotsUsed } : State) = { U.setFrames U.frames with heap := s₂.heap, slotsUsed := s₂.slotsUsed }
      rw [State.setFrames_self ht]
    subst hg
    refine Or.inr ⟨q, ⟨(({ U with heap := s₂.heap, slotsUsed := s₂.slotsUsed } : State).setVm s₂.vm), Ls ++ L, c0 + mc, s0 + ms⟩,
      ⟨X.admits, X.cas, X.clock, X.frames, X.room, X.hears, X.method, X.code, (X.here.setHeapUsed s₂.heap s₂.slotsUsed).setVm hW'.alike, X.tail, State.WarmedH.trans X.warmed hW', X.limits, X.bytes, X.same.trans (hsame.setVm s.vm)⟩,
      ⟨g, mk, s₂, L, E, ce, rfl, rfl, hx, hce, hcv, hcl, rfl, hL, rfl, rfl⟩, ?_⟩
    show Steps p.tables e below _ (((({ U with heap := s₂.heap, slotsUsed := s₂.slotsUsed } : State).setVm s₂.vm).setTop g).pushFrame (.throwing q))
    rw [← hs₂]
    exact hsteps
end
variable {p : Program} {l : Launch} {e : Env} {R : Room} {s : State} {m : MethodId} {args : Array Value} {below : List Frame} {meth : Method} {c : Code} {T : State} {H : Heap} {locs : List Loc} {cells slots : Nat}
theorem vx_callVX (X : Stand p l e R s m args below meth c T locs cells slots) (hexec : p.tables.exec = Jvm.exec) {own C : String} {index : Nat} {y : MethodName} {bytes : ByteArray} {maxL : Nat} {ret : Option FieldType} {hh : List (Nat × Nat × Nat × Nat)}
    (hown : s.vm.findClass own = some m.cls) (hlink : (Cond.methodLink own index y).before args s = true) (hinst : (Cond.instanceMethod y).before args s = true) (hsel : (Cond.selects C y y).before args s = true)
    (hcode : (Cond.codeWith y bytes maxL ret hh).before args s = true) (hy : y.cls ≠ "java/lang/invoke/MethodHandle" ∧ y.cls ≠ "java/lang/invoke/VarHandle")
    {W9 : Nat} {Pre : Pt → Array Value → Prop} {Post : Pt → Array Value → Option Value → Pt → Prop} {PostX : Pt → Array Value → Addr → Pt → Prop} (hK : vx_Back l R p e below s args y 3 W9 Pre Post PostX)
    {b : Addr} {cellB : Cell} (hcell : T.heap[b]? = some cellB) (hobj : cellB.vm.isStatics = false) (hcls : s.vm.findClass C = some cellB.cls)
    {g : JFrame} (hg : g.method = m) (hsize : g.locals.size = c.maxLocals) {argsL rest : List Value} (hlen : ∀ sig, parseMethodDescriptor y.desc = some sig → argsL.length = sig.parameters.length)
    (hstack : g.stack = argsL.reverse ++ .ref b :: rest) (hW : 2 * g.monitorRoom + (rest.map fun v => v.category).sum ≤ W9) (hdg : decode c.code g.pc = .ok (.invokevirtual index, 3))
    (hpre : ∀ vm₁, s.WarmedH vm₁ → Pre ⟨T.setVm vm₁, locs, cells, slots⟩ (Value.ref b :: argsL).toArray) :
    (∃ (v : Option Value) (vm₁ : Vm) (B : Pt), s.WarmedH vm₁ ∧ Stand p l e R s m args below meth c B.U B.locs B.cells B.slots ∧ Post ⟨T.setVm vm₁, locs, cells, slots⟩ (Value.ref b :: argsL).toArray v B ∧
      ∀ target, Steps p.tables e below (B.U.setTop { g with pc := g.pc + 3, stack := v.toList ++ rest }) target → Steps p.tables e below (T.setTop g) target) ∨
    (∃ (q : Addr) (vm₁ : Vm) (B : Pt), s.WarmedH vm₁ ∧ Stand p l e R s m args below meth c B.U B.locs B.cells B.slots ∧ PostX ⟨T.setVm vm₁, locs, cells, slots⟩ (Value.ref b :: argsL).toArray q B ∧
      Steps p.tables e below (T.setTop g) ((B.U.setTop { g with stack := rest }).pushFrame (.throwing q))) := by
  obtain ⟨mk, methM, hnamed, hmethM, hstM, habM⟩ := Cond.instanceMethod_spec hinst
  obtain ⟨m8, methM', cM, hn8, hmethM', -, -, -, -, -, -, hsigM⟩ := Cond.codeWith_spec hcode
  cases Option.some.inj (hn8.symm.trans hnamed)
  cases hmethM.symm.trans hmethM'
  obtain ⟨c2, r2, m2, q1, q2, q3, q4, kP, hkP, hkPi⟩ := Cond.selects_spec hsel
  cases hcls.symm.trans q1
  cases (State.methodFound?_of_named hnamed hy).symm.trans q2
  cases hnamed.symm.trans q3
  have hselP : selectMethod e.platform s.vm cellB.cls mk = .method mk := by rw [Launch.admits_selectMethod X.admits]; exact q4
  obtain ⟨vm₁, X₁, hstep₁⟩ := X.invokevirtual hexec hown hlink hnamed hmethM hstM hkP hkPi hy (a := b) (cell := cellB) hcell
    (fun z h => by rw [h] at hobj; cases hobj) hselP hmethM habM hkP hkPi (g := g) hg (argsL := argsL) (rest := rest) (hlen _ hsigM) hstack hdg
  rcases hK m meth c ⟨T.setVm vm₁, locs, cells, slots⟩ { g with stack := rest } (.invokevirtual index) mk (Value.ref b :: argsL).toArray X₁ hg hsize hdg hW (X₁.named hnamed) (hpre vm₁ X₁.warmed) with ⟨v, B, X', hpost, hsteps⟩ | ⟨q, B, X', hpost, hsteps⟩
  · exact Or.inl ⟨v, vm₁, B, X₁.warmed, X', hpost, fun target h => hstep₁ _ fun acts => by rw [doInvoke_state]; exact hsteps.trans h⟩
  · exact Or.inr ⟨q, vm₁, B, X₁.warmed, X', hpost, hstep₁ _ fun acts => by rw [doInvoke_state]; exact hsteps⟩
theorem vx_callSX (X : Stand p l e R s m args below meth c T locs cells slots) (hexec : p.tables.exec = Jvm.exec) {own : String} {index : Nat} {y : MethodName} {bytes : ByteArray} {maxL : Nat} {ret : Option FieldType} {hh : List (Nat × Nat × Nat × Nat)}
    (hown : s.vm.findClass own = some m.cls) (hlink : (Cond.methodLink own index y).before args s = true) (hstat : (Cond.static y).before args s = true) (hinit : (Cond.initialized y.cls).before args s = true)
    (hcode : (Cond.codeWith y bytes maxL ret hh).before args s = true) (hy : y.cls ≠ "java/lang/invoke/MethodHandle" ∧ y.cls ≠ "java/lang/invoke/VarHandle")
    {W9 : Nat} {Pre : Pt → Array Value → Prop} {Post : Pt → Array Value → Option Value → Pt → Prop} {PostX : Pt → Array Value → Addr → Pt → Prop} (hK : vx_Back l R p e below s args y 3 W9 Pre Post PostX)
    {g : JFrame} (hg : g.method = m) (hsize : g.locals.size = c.maxLocals) {argsL rest : List Value} (hlen : ∀ sig, parseMethodDescriptor y.desc = some sig → argsL.length = sig.parameters.length)
    (hstack : g.stack = argsL.reverse ++ rest) (hW : 2 * g.monitorRoom + (rest.map fun v => v.category).sum ≤ W9) (hdg : decode c.code g.pc = .ok (.invokestatic index, 3))
    (hpre : ∀ vm₁, s.WarmedH vm₁ → Pre ⟨T.setVm vm₁, locs, cells, slots⟩ argsL.toArray) :
    (∃ (v : Option Value) (vm₁ : Vm) (B : Pt), s.WarmedH vm₁ ∧ Stand p l e R s m args below meth c B.U B.locs B.cells B.slots ∧ Post ⟨T.setVm vm₁, locs, cells, slots⟩ argsL.toArray v B ∧
      ∀ target, Steps p.tables e below (B.U.setTop { g with pc := g.pc + 3, stack := v.toList ++ rest }) target → Steps p.tables e below (T.setTop g) target) ∨
    (∃ (q : Addr) (vm₁ : Vm) (B : Pt), s.WarmedH vm₁ ∧ Stand p l e R s m args below meth c B.U B.locs B.cells B.slots ∧ PostX ⟨T.setVm vm₁, locs, cells, slots⟩ argsL.toArray q B ∧
      Steps p.tables e below (T.setTop g) ((B.U.setTop { g with stack := rest }).pushFrame (.throwing q))) := by
  obtain ⟨mk, methM, cM, hnamed, hmethM, -, -, -, -, -, -, hsigM⟩ := Cond.codeWith_spec hcode
  have hstatic : methM.isStatic = true := Cond.static_spec hnamed hmethM hstat
  obtain ⟨kP, hkP, -⟩ := className_of_methodNamed hnamed
  have hinitP : kP.init = .initialized := Cond.initialized_spec (findClass_of_methodNamed hnamed) hkP hinit
  obtain ⟨vm₁, X₁, hstep₁⟩ := X.invokestatic hexec hown hlink hnamed hmethM hstatic hkP hinitP hy (g := g) hg (argsL := argsL) (rest := rest) (hlen _ hsigM) hstack hdg
  rcases hK m meth c ⟨T.setVm vm₁, locs, cells, slots⟩ { g with stack := rest } (.invokestatic index) mk argsL.toArray X₁ hg hsize hdg hW (X₁.named hnamed) (hpre vm₁ X₁.warmed) with ⟨v, B, X', hpost, hsteps⟩ | ⟨q, B, X', hpost, hsteps⟩
  · exact Or.inl ⟨v, vm₁, B, X₁.warmed, X', hpost, fun target h => hstep₁ _ fun acts => by rw [doInvoke_state]; exact hsteps.trans h⟩
  · exact Or.inr ⟨q, vm₁, B, X₁.warmed, X', hpost, hstep₁ _ fun acts => by rw [doInvoke_state]; exact hsteps⟩
theorem vx_callVW (X : Stand p l e R s m args below meth c T locs cells slots) (hexec : p.tables.exec = Jvm.exec) {own C : String} {index : Nat} {y : MethodName} {bytes : ByteArray} {maxL : Nat} {ret : Option FieldType} {hh : List (Nat × Nat × Nat × Nat)}
    (hown : s.vm.findClass own = some m.cls) (hlink : (Cond.methodLink own index y).before args s = true) (hinst : (Cond.instanceMethod y).before args s = true) (hsel : (Cond.selects C y y).before args s = true)
    (hcode : (Cond.codeWith y bytes maxL ret hh).before args s = true) (hy : y.cls ≠ "java/lang/invoke/MethodHandle" ∧ y.cls ≠ "java/lang/invoke/VarHandle")
    {W9 : Nat} {Pre : Pt → Array Value → Prop} {Post : Pt → Array Value → Option Value → Pt → Prop} (hK : Back l R p e below s args y 3 W9 Pre Post)
    {b : Addr} {cellB : Cell} (hcell : T.heap[b]? = some cellB) (hobj : cellB.vm.isStatics = false) (hcls : s.vm.findClass C = some cellB.cls)
    {g : JFrame} (hg : g.method = m) (hsize : g.locals.size = c.maxLocals) {argsL rest : List Value} (hlen : ∀ sig, parseMethodDescriptor y.desc = some sig → argsL.length = sig.parameters.length)
    (hstack : g.stack = argsL.reverse ++ .ref b :: rest) (hW : 2 * g.monitorRoom + (rest.map fun v => v.category).sum ≤ W9) (hdg : decode c.code g.pc = .ok (.invokevirtual index, 3))
    (hpre : ∀ vm₁, s.WarmedH vm₁ → Pre ⟨T.setVm vm₁, locs, cells, slots⟩ (Value.ref b :: argsL).toArray) :
    ∃ (v : Option Value) (vm₁ : Vm) (B : Pt), s.WarmedH vm₁ ∧ Stand p l e R s m args below meth c B.U B.locs B.cells B.slots ∧ Post ⟨T.setVm vm₁, locs, cells, slots⟩ (Value.ref b :: argsL).toArray v B ∧
      ∀ target, Steps p.tables e below (B.U.setTop { g with pc := g.pc + 3, stack := v.toList ++ rest }) target → Steps p.tables e below (T.setTop g) target := by
  obtain ⟨mk, methM, hnamed, hmethM, hstM, habM⟩ := Cond.instanceMethod_spec hinst
  obtain ⟨m8, methM', cM, hn8, hmethM', -, -, -, -, -, -, hsigM⟩ := Cond.codeWith_spec hcode
  cases Option.some.inj (hn8.symm.trans hnamed)
  cases hmethM.symm.trans hmethM'
  obtain ⟨c2, r2, m2, q1, q2, q3, q4, kP, hkP, hkPi⟩ := Cond.selects_spec hsel
  cases hcls.symm.trans q1
  cases (State.methodFound?_of_named hnamed hy).symm.trans q2
  cases hnamed.symm.trans q3
  have hselP : selectMethod e.platform s.vm cellB.cls mk = .method mk := by rw [Launch.admits_selectMethod X.admits]; exact q4
  obtain ⟨vm₁, X₁, hstep₁⟩ := X.invokevirtual hexec hown hlink hnamed hmethM hstM hkP hkPi hy (a := b) (cell := cellB) hcell
    (fun z h => by rw [h] at hobj; cases hobj) hselP hmethM habM hkP hkPi (g := g) hg (argsL := argsL) (rest := rest) (hlen _ hsigM) hstack hdg
  obtain ⟨v, B, X', hpost, hsteps⟩ := hK m meth c ⟨T.setVm vm₁, locs, cells, slots⟩ { g with stack := rest } (.invokevirtual index) mk (Value.ref b :: argsL).toArray X₁ hg hsize hdg hW (X₁.named hnamed) (hpre vm₁ X₁.warmed)
  exact ⟨v, vm₁, B, X₁.warmed, X', hpost, fun target h => hstep₁ _ fun acts => by rw [doInvoke_state]; exact hsteps.trans h⟩
abbrev vx_CVW (R : Room) (s : State) (args : Array Value) (own C : String) (index : Nat) (y : MethodName) (bytes : ByteArray) (maxL : Nat) (ret : Option FieldType) (hh : List (Nat × Nat × Nat × Nat)) (ws : List Cond) (rm : Room) (mc ms n : Nat) : Prop :=
  (rm.cells = mc ∧ rm.slots = ms ∧ rm.frames + 1 ≤ R.frames ∧ 8 + (maxL + 11) + rm.locals ≤ R.locals ∧ (∀ w ∈ ws, ∀ (a' : Array Value) (U : State), s.WarmedH U.vm → w.before a' U = true) ∧ Cond.codeWith y bytes maxL ret hh ∈ ws) ∧
  (Cond.codeWith y bytes maxL ret hh).before args s = true ∧ (Cond.initialized y.cls).before args s = true ∧ (y.cls ≠ "java/lang/invoke/MethodHandle" ∧ y.cls ≠ "java/lang/invoke/VarHandle") ∧
  (∀ sig, parseMethodDescriptor y.desc = some sig → n = sig.parameters.length) ∧ (Cond.methodLink own index y).before args s = true ∧ (Cond.instanceMethod y).before args s = true ∧ (Cond.selects C y y).before args s = true
theorem vx_cwVW {own C : String} {index maxL mc ms : Nat} {y : MethodName} {bytes : ByteArray} {ret : Option FieldType} {hh : List (Nat × Nat × Nat × Nat)} {Ts ws ws' : List Cond} {rm : Room} (n : Nat) (ht : ∀ w ∈ Ts, w.before args s = true) (hT : GoodIn Ts (wsV own index C y ws)) (hw : ws = Cond.codeWith y bytes maxL ret hh :: ws') (hrc : rm.cells = mc) (hrs : rm.slots = ms)
    (hd : y.cls = C ∧ y.cls ≠ "java/lang/invoke/MethodHandle" ∧ y.cls ≠ "java/lang/invoke/VarHandle" ∧ (parseMethodDescriptor y.desc).map (fun d => d.parameters.length) = some n) (hR : rm.frames + 1 ≤ R.frames ∧ 8 + (maxL + 11) + rm.locals ≤ R.locals) :
    vx_CVW R s args own C index y bytes maxL ret hh ws rm mc ms n := by
  obtain ⟨hC, hd⟩ := hd
  subst hC
  have ok : ∀ w ∈ wsV own index y.cls y ws, w.before args s = true := fun w h => ht w (hT w h).1
  have hG : GoodIn Ts ws := fun w h => hT w (by unfold wsV; exact List.mem_append_right _ h)
  have hc : Cond.codeWith y bytes maxL ret hh ∈ ws := by rw [hw]; exact List.mem_cons_self
  refine ⟨⟨hrc, hrs, hR.1, hR.2, pay_in ht hG, hc⟩, ht _ (hG _ hc).1, ok _ (by simp [wsV]), ⟨hd.1, hd.2.1⟩, fun sig h => ?_, ok _ (by simp [wsV]), ok _ (by simp [wsV]), ok _ (by simp [wsV])⟩
  have h2 := hd.2.2
  rw [h] at h2
  exact (Option.some.inj h2).symm
theorem vx_runVW {y : MethodName} {bytes cc : ByteArray} {maxL nL mc ms n index : Nat} {ret : Option FieldType} {hh : List (Nat × Nat × Nat × Nat)} {ws : List Cond} {rm : Room} {Pc : Array Value → State → Prop} {Qc : Array Value → State → Outcome → State → Prop} {free : Addr → Prop} {Ts : List Cond} {own C : String} {b : Addr} {As rest : List Value} {g : JFrame}
    (S : CallFix p m c cc nL s args Ts own) (hM : Met l y ws rm Pc Qc mc ms free) (cw : vx_CVW R s args own C index y bytes maxL ret hh ws rm mc ms n) (hp : PreV s H C b Pc As)
    (hg : g.method = m) (hn : As.length = n) (hsize : g.locals.size = nL) (hstack : g.stack = As.reverse ++ .ref b :: rest) (hW : 2 * g.monitorRoom + (rest.map fun v => v.category).sum ≤ 8) (hdg : decode cc g.pc = .ok (.invokevirtual index, 3)) (hf : cells + mc ≤ R.cells ∧ slots + ms ≤ R.slots) :
    va_Run p l e R s m args below meth c H locs cells slots mc ms g rest (Qc (Value.ref b :: As).toArray) free := by
  obtain ⟨⟨hrc, hrs, hfr, hlo, hws, hcw⟩, hcode, hini, hy, hlen, hl, hin, hse⟩ := cw
  have hK : Back l R p e below s args y 3 8 (PreOf R mc ms Pc) (PostOf Qc mc ms free) := va_backW (hh := hh) (bytes := bytes) (maxL := maxL) (ret := ret) hM hp.1 hrc hrs hfr hlo hws hcw (fun a' U hW => word_at hW (Or.inl (by first | rfl | simp [Cond.onTables, Cond.keeps, Cond.steady])) hini)
  obtain ⟨hx, hb, hml, ho, -⟩ := S
  obtain ⟨-, ⟨cellB, hcB, hoB, hclB⟩, hPc⟩ := hp
  intro T hT X
  obtain ⟨v, vm₁, ⟨U', l2, c2, s2⟩, hW₁, X', ⟨g', mk, t, L, e1, e2, hq, h1, hL, h2, h3⟩, st⟩ := vx_callVW X hx (C := C) (hh := hh) (bytes := bytes) (maxL := maxL) (ret := ret) ho hl hin hse hcode hy hK (by rw [hT]; exact hcB) hoB hclB hg (hsize.trans hml.symm) (argsL := As) (rest := rest) (fun sig h => hn.trans (hlen sig h)) hstack hW (by rw [hb]; exact hdg)
    (fun vm₁ hW₁ => ⟨hf.1, hf.2, hPc (T.setVm vm₁) hT hW₁⟩)
  dsimp only [Pt.U, Pt.locs, Pt.cells, Pt.slots] at X' e1 e2 h1 h2 h3 st
  subst h1; subst h2; subst h3
  exact ⟨v, (T.setVm vm₁).calling g' mk (Value.ref b :: As).toArray, t, U', L, hT, X', hL, e1, e2, hq, st⟩
section
variable {y : MethodName} {bytes cc : ByteArray} {maxL nL mc ms n index : Nat} {ret : Option FieldType} {ws : List Cond} {rm : Room} {Pc : Array Value → State → Prop} {Qc : Array Value → State → Outcome → State → Prop} {XC : String → State → State → Prop} {free : Addr → Prop} {Ts : List Cond} {own C : String} {b : Addr} {As rest : List Value} {g : JFrame}
theorem vx_runVX {hh : List (Nat × Nat × Nat × Nat)} (S : CallFix p m c cc nL s args Ts own) (hM : vx_Met l y ws rm Pc Qc XC mc ms free) (cw : vx_CVW R s args own C index y bytes maxL ret hh ws rm mc ms n) (hp : PreV s H C b Pc As)
    (hg : g.method = m) (hn : As.length = n) (hsize : g.locals.size = nL) (hstack : g.stack = As.reverse ++ .ref b :: rest) (hW : 2 * g.monitorRoom + (rest.map fun v => v.category).sum ≤ 8) (hdg : decode cc g.pc = .ok (.invokevirtual index, 3)) (hf : cells + mc ≤ R.cells ∧ slots + ms ≤ R.slots) :
    vx_Run p l e R s m args below meth c H locs cells slots mc ms g rest (Qc (Value.ref b :: As).toArray) XC free := by
  obtain ⟨⟨hrc, hrs, hfr, hlo, hws, hcw⟩, hcode, hini, hy, hlen, hl, hin, hse⟩ := cw
  have hK : vx_Back l R p e below s args y 3 8 (PreOf R mc ms Pc) (PostOf Qc mc ms free) (vx_Post XC mc ms free) := vx_backW (hh := hh) (bytes := bytes) (maxL := maxL) (ret := ret) hM hp.1 hrc hrs hfr hlo hws hcw (fun a' U hW => word_at hW (Or.inl (by first | rfl | simp [Cond.onTables, Cond.keeps, Cond.steady])) hini)
  obtain ⟨hx, hb, hml, ho, -⟩ := S
  obtain ⟨-, ⟨cellB, hcB, hoB, hclB⟩, hPc⟩ := hp
  intro T hT X
  rcases vx_callVX X hx (C := C) (hh := hh) (bytes := bytes) (maxL := maxL) (ret := ret) ho hl hin hse hcode hy hK (by rw [hT]; exact hcB) hoB hclB hg (hsize.trans hml.symm) (argsL := As) (rest := rest) (fun sig h => hn.trans (hlen sig h)) hstack hW (by rw [hb]; exact hdg)
    (fun vm₁ hW₁ => ⟨hf.1, hf.2, hPc (T.setVm vm₁) hT hW₁⟩) with ⟨v, vm₁, ⟨U', l2, c2, s2⟩, hW₁, X', ⟨g', mk, t, L, e1, e2, hq, h1, hL, h2, h3⟩, st⟩ | ⟨q, vm₁, ⟨U', l2, c2, s2⟩, hW₁, X', ⟨g', mk, t, L, E, ce, e1, e2, hq, hce, hcv, hcl, h1, hL, h2, h3⟩, st⟩
  · dsimp only [Pt.U, Pt.locs, Pt.cells, Pt.slots] at X' e1 e2 h1 h2 h3 st
    subst h1; subst h2; subst h3
    exact Or.inl ⟨v, (T.setVm vm₁).calling g' mk (Value.ref b :: As).toArray, t, U', L, hT, X', hL, e1, e2, hq, st⟩
  · dsimp only [Pt.U, Pt.locs, Pt.cells, Pt.slots] at X' e1 e2 h1 h2 h3 st hcl
    subst h1; subst h2; subst h3
    exact Or.inr ⟨q, (T.setVm vm₁).calling g' mk (Value.ref b :: As).toArray, t, U', L, E, ce, hT, X', hL, e1, e2, hq, hce, hcv, vx_cls hW₁ hcl, st⟩
theorem vx_runSX {hh : List (Nat × Nat × Nat × Nat)} (S : CallFix p m c cc nL s args Ts own) (hM : vx_Met l y ws rm Pc Qc XC mc ms free) (cw : vx_CSW R s args own index y bytes maxL ret hh ws rm mc ms n) (hp : PreS s H Pc As)
    (hg : g.method = m) (hn : As.length = n) (hsize : g.locals.size = nL) (hstack : g.stack = As.reverse ++ rest) (hW : 2 * g.monitorRoom + (rest.map fun v => v.category).sum ≤ 8) (hdg : decode cc g.pc = .ok (.invokestatic index, 3)) (hf : cells + mc ≤ R.cells ∧ slots + ms ≤ R.slots) :
    vx_Run p l e R s m args below meth c H locs cells slots mc ms g rest (Qc As.toArray) XC free := by
  obtain ⟨⟨hrc, hrs, hfr, hlo, hws, hcw⟩, hcode, hini, hy, hlen, hl, hstt⟩ := cw
  have hK : vx_Back l R p e below s args y 3 8 (PreOf R mc ms Pc) (PostOf Qc mc ms free) (vx_Post XC mc ms free) := vx_backW (hh := hh) (bytes := bytes) (maxL := maxL) (ret := ret) hM hp.1 hrc hrs hfr hlo hws hcw (fun a' U hW => word_at hW (Or.inl (by first | rfl | simp [Cond.onTables, Cond.keeps, Cond.steady])) hini)
  obtain ⟨hx, hb, hml, ho, -⟩ := S
  intro T hT X
  rcases vx_callSX X hx (hh := hh) (bytes := bytes) (maxL := maxL) (ret := ret) ho hl hstt hini hcode hy hK hg (hsize.trans hml.symm) (argsL := As) (rest := rest) (fun sig h => hn.trans (hlen sig h)) hstack hW (by rw [hb]; exact hdg)
    (fun vm₁ hW₁ => ⟨hf.1, hf.2, hp.2 (T.setVm vm₁) hT hW₁⟩) with ⟨v, vm₁, ⟨U', l2, c2, s2⟩, hW₁, X', ⟨g', mk, t, L, e1, e2, hq, h1, hL, h2, h3⟩, st⟩ | ⟨q, vm₁, ⟨U', l2, c2, s2⟩, hW₁, X', ⟨g', mk, t, L, E, ce, e1, e2, hq, hce, hcv, hcl, h1, hL, h2, h3⟩, st⟩
  · dsimp only [Pt.U, Pt.locs, Pt.cells, Pt.slots] at X' e1 e2 h1 h2 h3 st
    subst h1; subst h2; subst h3
    exact Or.inl ⟨v, (T.setVm vm₁).calling g' mk As.toArray, t, U', L, hT, X', hL, e1, e2, hq, st⟩
  · dsimp only [Pt.U, Pt.locs, Pt.cells, Pt.slots] at X' e1 e2 h1 h2 h3 st hcl
    subst h1; subst h2; subst h3
    exact Or.inr ⟨q, (T.setVm vm₁).calling g' mk As.toArray, t, U', L, E, ce, hT, X', hL, e1, e2, hq, hce, hcv, vx_cls hW₁ hcl, st⟩
end
end VXH
theorem vx_ofWH {l : Launch} {y : MethodName} {ws ws' : List Cond} {rm : Room} {Pc : Array Value → State → Prop} {Qc : Array Value → State → Outcome → State → Prop} {XC : String → State → State → Prop} {mc ms : Nat} {free : Addr → Prop} {cc : ByteArray} {maxL : Nat} {ret : Option FieldType} {hh : List (Nat × Nat × Nat × Nat)}
    (hy : plainName y.cls = true) (hw : ws = Cond.codeWith y cc maxL ret hh :: ws')
    (body : ∀ p e s m args below meth c s₁, BodyLoose p l y (headSpec ws rm) cc maxL ret e s m args below meth c s₁ → c.maxLocals = maxL → Pc args s →
      W p l e (headSpec ws rm).room s m args below meth c s.heap [] 0 0 (vx_MQ below Qc XC args s mc ms free) (entryFrame m args maxL)) : vx_Met l y ws rm Pc Qc XC mc ms free := by
  refine MetFree.of_bodyS (code := cc) (maxLocals := maxL) (ret := ret) hy ?_ ?_
  · intro args s m h hn
    obtain ⟨m9, meth, c, hn9, h1, h2, h3, h4, -, h5, h6, -⟩ := Cond.codeWith_spec (atoms_spec (ws := ws) h _ (by rw [hw]; exact List.mem_cons_self))
    cases hn.symm.trans hn9
    exact ⟨meth, c, h1, h2, h3, h4, h5, h6⟩
  · intro p e s m args below meth c s₁ B hml hP _
    have hh0 : s₁.heap = s.heap := by rw [B.state]; rfl
    obtain ⟨t, a1, o, b1, b2, b3⟩ := body p e s m args below meth c s₁ B hml hP s₁ hh0 (Stand.of_body B)
    exact ⟨t, o, a1, b1, b2, b3⟩
/-! ===== END ===== -/
end
section
/-! ===== BEGIN printed: names, fields, word lists, decode rows ===== -/
def RX0 : String := "StageChip$Flight"
def TX0 : u_T := fun k => match k with
  | 0 => ("StageChip$Flight", "present", "Z", false)
  | 1 => ("StageChip$Flight", "instruction", "LStageChip$Instruction;", false)
  | 2 => ("StageChip$Flight", "place", "I", false)
  | 3 => ("StageChip$Flight", "guess", "I", false)
  | 4 => ("StageChip$Flight", "worked", "I", false)
  | 5 => ("StageChip$Flight", "fault", "I", false)
  | 6 => ("StageChip$Flight", "address", "I", false)
  | _ => ("StageChip$Flight", "value", "I", false)
def tyX0 : Nat → FieldType := fun k => match k with
  | 0 => .boolean
  | 1 => .object "StageChip$Instruction"
  | 2 => .int
  | 3 => .int
  | 4 => .int
  | 5 => .int
  | 6 => .int
  | _ => .int
abbrev wsX00 : List Cond := u_ws RX0 TX0 8
theorem nmX0 : ∀ a, a < 8 → ∀ b, b < 8 → a ≠ b → (TX0 a).2.1 ≠ (TX0 b).2.1 := by decide +kernel
theorem tyX0_ok : ∀ k, k < 8 → parseFieldDescriptor (TX0 k).2.2.1 = some (tyX0 k) := by decide +kernel
abbrev cX0_init : ByteArray := prog_2_method_1_code
def yX0_init : MethodName := ⟨RX0, "<init>", "(LStageChip$Instruction;)V"⟩
abbrev cX0_does : ByteArray := prog_2_method_2_code
def yX0_does : MethodName := ⟨RX0, "does", "(I)Z"⟩
abbrev cX0_writes : ByteArray := prog_2_method_3_code
def yX0_writes : MethodName := ⟨RX0, "writes", "(I)Z"⟩
def RX1 : String := "StageChip$Instruction"
def TX1 : u_T := fun k => match k with
  | 0 => ("StageChip$Instruction", "operation", "I", true)
  | 1 => ("StageChip$Instruction", "d", "I", true)
  | 2 => ("StageChip$Instruction", "s", "I", true)
  | 3 => ("StageChip$Instruction", "t", "I", true)
  | _ => ("StageChip$Instruction", "n", "I", true)
def tyX1 : Nat → FieldType := fun k => match k with
  | 0 => .int
  | 1 => .int
  | 2 => .int
  | 3 => .int
  | _ => .int
abbrev wsX10 : List Cond := u_ws RX1 TX1 5
theorem nmX1 : ∀ a, a < 5 → ∀ b, b < 5 → a ≠ b → (TX1 a).2.1 ≠ (TX1 b).2.1 := by decide +kernel
theorem tyX1_ok : ∀ k, k < 5 → parseFieldDescriptor (TX1 k).2.2.1 = some (tyX1 k) := by decide +kernel
abbrev cX1_init : ByteArray := prog_3_method_1_code
def yX1_init : MethodName := ⟨RX1, "<init>", "(IIIII)V"⟩
abbrev cX1_usesS : ByteArray := prog_3_method_2_code
def yX1_usesS : MethodName := ⟨RX1, "usesS", "()Z"⟩
abbrev cX1_usesT : ByteArray := prog_3_method_3_code
def yX1_usesT : MethodName := ⟨RX1, "usesT", "()Z"⟩
abbrev cX1_writesD : ByteArray := prog_3_method_4_code
def yX1_writesD : MethodName := ⟨RX1, "writesD", "()Z"⟩
abbrev cX1_isBranch : ByteArray := prog_3_method_5_code
def yX1_isBranch : MethodName := ⟨RX1, "isBranch", "()Z"⟩
abbrev cX1_touchesData : ByteArray := prog_3_method_6_code
def yX1_touchesData : MethodName := ⟨RX1, "touchesData", "()Z"⟩
abbrev cX1_workCycles : ByteArray := prog_3_method_7_code
def yX1_workCycles : MethodName := ⟨RX1, "workCycles", "()I"⟩
def RX2 : String := "StageChip"
def TX2 : u_T := fun k => match k with
  | 0 => ("StageChip", "nop", "LStageChip$Instruction;", true)
  | 1 => ("StageChip", "program", "[LStageChip$Instruction;", true)
  | 2 => ("StageChip", "data", "[I", true)
  | 3 => ("StageChip", "registers", "[I", true)
  | 4 => ("StageChip", "counters", "[I", true)
  | 5 => ("StageChip", "stages", "[LStageChip$Flight;", true)
  | 6 => ("StageChip", "lastRetired", "[I", true)
  | 7 => ("StageChip", "where", "I", false)
  | 8 => ("StageChip", "handlerPlace", "I", false)
  | 9 => ("StageChip", "cause", "I", false)
  | 10 => ("StageChip", "returnPlace", "I", false)
  | 11 => ("StageChip", "halted", "Z", false)
  | 12 => ("StageChip", "cycleCount", "I", false)
  | 13 => ("StageChip", "retiredCount", "I", false)
  | 14 => ("StageChip", "waitCount", "I", false)
  | 15 => ("StageChip", "wrongGuessCount", "I", false)
  | _ => ("StageChip", "faultCount", "I", false)
def tyX2 : Nat → FieldType := fun k => match k with
  | 0 => .object "StageChip$Instruction"
  | 1 => .array (.object "StageChip$Instruction")
  | 2 => .array .int
  | 3 => .array .int
  | 4 => .array .int
  | 5 => .array (.object "StageChip$Flight")
  | 6 => .array .int
  | 7 => .int
  | 8 => .int
  | 9 => .int
  | 10 => .int
  | 11 => .boolean
  | 12 => .int
  | 13 => .int
  | 14 => .int
  | 15 => .int
  | _ => .int
abbrev wsX20 : List Cond := u_ws RX2 TX2 17
theorem nmX2 : ∀ a, a < 17 → ∀ b, b < 17 → a ≠ b → (TX2 a).2.1 ≠ (TX2 b).2.1 := by decide +kernel
theorem tyX2_ok : ∀ k, k < 17 → parseFieldDescriptor (TX2 k).2.2.1 = some (tyX2 k) := by decide +kernel
abbrev cX2_init : ByteArray := prog_1_method_1_code
def yX2_init : MethodName := ⟨RX2, "<init>", "()V"⟩
abbrev cX2_put : ByteArray := prog_1_method_2_code
def yX2_put : MethodName := ⟨RX2, "put", "(IIIIII)V"⟩
abbrev cX2_poke : ByteArray := prog_1_method_3_code
def yX2_poke : MethodName := ⟨RX2, "poke", "(II)I"⟩
abbrev cX2_peek : ByteArray := prog_1_method_4_code
def yX2_peek : MethodName := ⟨RX2, "peek", "(I)I"⟩
abbrev cX2_set : ByteArray := prog_1_method_5_code
def yX2_set : MethodName := ⟨RX2, "set", "(II)I"⟩
abbrev cX2_register : ByteArray := prog_1_method_6_code
def yX2_register : MethodName := ⟨RX2, "register", "(I)I"⟩
abbrev cX2_start : ByteArray := prog_1_method_7_code
def yX2_start : MethodName := ⟨RX2, "start", "(I)V"⟩
abbrev cX2_handler : ByteArray := prog_1_method_8_code
def yX2_handler : MethodName := ⟨RX2, "handler", "(I)I"⟩
abbrev cX2_cycles : ByteArray := prog_1_method_9_code
def yX2_cycles : MethodName := ⟨RX2, "cycles", "(I)I"⟩
abbrev cX2_stage : ByteArray := prog_1_method_10_code
def yX2_stage : MethodName := ⟨RX2, "stage", "(I)I"⟩
abbrev cX2_counter : ByteArray := prog_1_method_11_code
def yX2_counter : MethodName := ⟨RX2, "counter", "(I)I"⟩
abbrev cX2_retired : ByteArray := prog_1_method_12_code
def yX2_retired : MethodName := ⟨RX2, "retired", "(I)I"⟩
abbrev cX2_count : ByteArray := prog_1_method_13_code
def yX2_count : MethodName := ⟨RX2, "count", "(I)I"⟩
abbrev cX2_pace : ByteArray := prog_1_method_14_code
def yX2_pace : MethodName := ⟨RX2, "pace", "()F"⟩
abbrev cX2_checkIndex : ByteArray := prog_1_method_15_code
def yX2_checkIndex : MethodName := ⟨RX2, "checkIndex", "(II)V"⟩
abbrev cX2_checkArgument : ByteArray := prog_1_method_16_code
def yX2_checkArgument : MethodName := ⟨RX2, "checkArgument", "(III)V"⟩
abbrev cX2_runCycle : ByteArray := prog_1_method_17_code
def yX2_runCycle : MethodName := ⟨RX2, "runCycle", "()V"⟩
abbrev cX2_leaveEndsCycle : ByteArray := prog_1_method_18_code
def yX2_leaveEndsCycle : MethodName := ⟨RX2, "leaveEndsCycle", "(LStageChip$Flight;)Z"⟩
abbrev cX2_takeFault : ByteArray := prog_1_method_19_code
def yX2_takeFault : MethodName := ⟨RX2, "takeFault", "(LStageChip$Flight;)V"⟩
abbrev cX2_retire : ByteArray := prog_1_method_20_code
def yX2_retire : MethodName := ⟨RX2, "retire", "(LStageChip$Flight;)V"⟩
abbrev cX2_passMemory : ByteArray := prog_1_method_21_code
def yX2_passMemory : MethodName := ⟨RX2, "passMemory", "(LStageChip$Flight;)V"⟩
abbrev cX2_workInReached : ByteArray := prog_1_method_22_code
def yX2_workInReached : MethodName := ⟨RX2, "workInReached", "(LStageChip$Flight;)V"⟩
abbrev cX2_needsLoadAhead : ByteArray := prog_1_method_23_code
def yX2_needsLoadAhead : MethodName := ⟨RX2, "needsLoadAhead", "(LStageChip$Instruction;)Z"⟩
abbrev cX2_finishWork : ByteArray := prog_1_method_24_code
def yX2_finishWork : MethodName := ⟨RX2, "finishWork", "(LStageChip$Flight;)V"⟩
abbrev cX2_handedOn : ByteArray := prog_1_method_25_code
def yX2_handedOn : MethodName := ⟨RX2, "handedOn", "(I)I"⟩
abbrev cX2_faultOf : ByteArray := prog_1_method_26_code
def yX2_faultOf : MethodName := ⟨RX2, "faultOf", "(LStageChip$Instruction;II)I"⟩
abbrev cX2_isWord : ByteArray := prog_1_method_27_code
def yX2_isWord : MethodName := ⟨RX2, "isWord", "(I)Z"⟩
abbrev cX2_valueOf : ByteArray := prog_1_method_28_code
def yX2_valueOf : MethodName := ⟨RX2, "valueOf", "(LStageChip$Flight;II)I"⟩
abbrev cX2_goesElsewhere : ByteArray := prog_1_method_29_code
def yX2_goesElsewhere : MethodName := ⟨RX2, "goesElsewhere", "(III)Z"⟩
abbrev cX2_target : ByteArray := prog_1_method_30_code
def yX2_target : MethodName := ⟨RX2, "target", "(LStageChip$Flight;I)I"⟩
abbrev cX2_learn : ByteArray := prog_1_method_31_code
def yX2_learn : MethodName := ⟨RX2, "learn", "(IZ)V"⟩
abbrev cX2_holdAgainstGuess : ByteArray := prog_1_method_32_code
def yX2_holdAgainstGuess : MethodName := ⟨RX2, "holdAgainstGuess", "(LStageChip$Flight;I)V"⟩
abbrev cX2_emptyStagesBelow : ByteArray := prog_1_method_33_code
def yX2_emptyStagesBelow : MethodName := ⟨RX2, "emptyStagesBelow", "(I)V"⟩
abbrev cX2_moveOnIfFree : ByteArray := prog_1_method_34_code
def yX2_moveOnIfFree : MethodName := ⟨RX2, "moveOnIfFree", "(I)V"⟩
abbrev cX2_fetchIfFree : ByteArray := prog_1_method_35_code
def yX2_fetchIfFree : MethodName := ⟨RX2, "fetchIfFree", "(LStageChip$Flight;)V"⟩
abbrev cX2_guessNext : ByteArray := prog_1_method_36_code
def yX2_guessNext : MethodName := ⟨RX2, "guessNext", "(LStageChip$Instruction;I)I"⟩
def RX3 : String := "StageChipModel"
def TX3 : u_T := fun k => match k with
  | 0 => ("StageChipModel", "thrown", "I", false)
  | 1 => ("StageChipModel", "operations", "[I", true)
  | 2 => ("StageChipModel", "ds", "[I", true)
  | 3 => ("StageChipModel", "ss", "[I", true)
  | 4 => ("StageChipModel", "ts", "[I", true)
  | 5 => ("StageChipModel", "ns", "[I", true)
  | 6 => ("StageChipModel", "data", "[I", true)
  | 7 => ("StageChipModel", "registers", "[I", true)
  | 8 => ("StageChipModel", "counters", "[I", true)
  | 9 => ("StageChipModel", "there", "[Z", true)
  | 10 => ("StageChipModel", "place", "[I", true)
  | 11 => ("StageChipModel", "op", "[I", true)
  | 12 => ("StageChipModel", "d", "[I", true)
  | 13 => ("StageChipModel", "s", "[I", true)
  | 14 => ("StageChipModel", "t", "[I", true)
  | 15 => ("StageChipModel", "n", "[I", true)
  | 16 => ("StageChipModel", "guess", "[I", true)
  | 17 => ("StageChipModel", "value", "[I", true)
  | 18 => ("StageChipModel", "address", "[I", true)
  | 19 => ("StageChipModel", "fault", "[I", true)
  | 20 => ("StageChipModel", "left", "I", false)
  | 21 => ("StageChipModel", "where", "I", false)
  | 22 => ("StageChipModel", "handlerAt", "I", false)
  | 23 => ("StageChipModel", "cause", "I", false)
  | 24 => ("StageChipModel", "back", "I", false)
  | 25 => ("StageChipModel", "halted", "Z", false)
  | 26 => ("StageChipModel", "all", "I", false)
  | 27 => ("StageChipModel", "done", "I", false)
  | 28 => ("StageChipModel", "waits", "I", false)
  | 29 => ("StageChipModel", "differed", "I", false)
  | 30 => ("StageChipModel", "faults", "I", false)
  | 31 => ("StageChipModel", "kept", "I", false)
  | _ => ("StageChipModel", "last", "[I", true)
def tyX3 : Nat → FieldType := fun k => match k with
  | 0 => .int
  | 1 => .array .int
  | 2 => .array .int
  | 3 => .array .int
  | 4 => .array .int
  | 5 => .array .int
  | 6 => .array .int
  | 7 => .array .int
  | 8 => .array .int
  | 9 => .array .boolean
  | 10 => .array .int
  | 11 => .array .int
  | 12 => .array .int
  | 13 => .array .int
  | 14 => .array .int
  | 15 => .array .int
  | 16 => .array .int
  | 17 => .array .int
  | 18 => .array .int
  | 19 => .array .int
  | 20 => .int
  | 21 => .int
  | 22 => .int
  | 23 => .int
  | 24 => .int
  | 25 => .boolean
  | 26 => .int
  | 27 => .int
  | 28 => .int
  | 29 => .int
  | 30 => .int
  | 31 => .int
  | _ => .array .int
abbrev wsX30 : List Cond := u_ws RX3 TX3 33
theorem nmX3 : ∀ a, a < 33 → ∀ b, b < 33 → a ≠ b → (TX3 a).2.1 ≠ (TX3 b).2.1 := by decide +kernel
theorem tyX3_ok : ∀ k, k < 33 → parseFieldDescriptor (TX3 k).2.2.1 = some (tyX3 k) := by decide +kernel
abbrev cX3_init : ByteArray := prog_5_method_1_code
def yX3_init : MethodName := ⟨RX3, "<init>", "()V"⟩
abbrev cX3_thrown : ByteArray := prog_5_method_2_code
def yX3_thrown : MethodName := ⟨RX3, "thrown", "()I"⟩
abbrev cX3_out : ByteArray := prog_5_method_3_code
def yX3_out : MethodName := ⟨RX3, "out", "(III)Z"⟩
abbrev cX3_in : ByteArray := prog_5_method_4_code
def yX3_in : MethodName := ⟨RX3, "in", "(III)Z"⟩
abbrev cX3_put : ByteArray := prog_5_method_5_code
def yX3_put : MethodName := ⟨RX3, "put", "(IIIIII)V"⟩
abbrev cX3_poke : ByteArray := prog_5_method_6_code
def yX3_poke : MethodName := ⟨RX3, "poke", "(II)I"⟩
abbrev cX3_peek : ByteArray := prog_5_method_7_code
def yX3_peek : MethodName := ⟨RX3, "peek", "(I)I"⟩
abbrev cX3_set : ByteArray := prog_5_method_8_code
def yX3_set : MethodName := ⟨RX3, "set", "(II)I"⟩
abbrev cX3_register : ByteArray := prog_5_method_9_code
def yX3_register : MethodName := ⟨RX3, "register", "(I)I"⟩
abbrev cX3_empty : ByteArray := prog_5_method_10_code
def yX3_empty : MethodName := ⟨RX3, "empty", "()V"⟩
abbrev cX3_start : ByteArray := prog_5_method_11_code
def yX3_start : MethodName := ⟨RX3, "start", "(I)V"⟩
abbrev cX3_handler : ByteArray := prog_5_method_12_code
def yX3_handler : MethodName := ⟨RX3, "handler", "(I)I"⟩
abbrev cX3_writes : ByteArray := prog_5_method_13_code
def yX3_writes : MethodName := ⟨RX3, "writes", "(I)Z"⟩
abbrev cX3_usesFirst : ByteArray := prog_5_method_14_code
def yX3_usesFirst : MethodName := ⟨RX3, "usesFirst", "(I)Z"⟩
abbrev cX3_usesSecond : ByteArray := prog_5_method_15_code
def yX3_usesSecond : MethodName := ⟨RX3, "usesSecond", "(I)Z"⟩
abbrev cX3_move : ByteArray := prog_5_method_16_code
def yX3_move : MethodName := ⟨RX3, "move", "(I)V"⟩
abbrev cX3_leave : ByteArray := prog_5_method_17_code
def yX3_leave : MethodName := ⟨RX3, "leave", "()Z"⟩
abbrev cX3_remember : ByteArray := prog_5_method_18_code
def yX3_remember : MethodName := ⟨RX3, "remember", "()V"⟩
abbrev cX3_read : ByteArray := prog_5_method_19_code
def yX3_read : MethodName := ⟨RX3, "read", "(I)I"⟩
abbrev cX3_reckon : ByteArray := prog_5_method_20_code
def yX3_reckon : MethodName := ⟨RX3, "reckon", "(III)I"⟩
abbrev cX3_work : ByteArray := prog_5_method_21_code
def yX3_work : MethodName := ⟨RX3, "work", "()I"⟩
abbrev cX3_reach : ByteArray := prog_5_method_22_code
def yX3_reach : MethodName := ⟨RX3, "reach", "(I)V"⟩
abbrev cX3_fetch : ByteArray := prog_5_method_23_code
def yX3_fetch : MethodName := ⟨RX3, "fetch", "()V"⟩
abbrev cX3_cycle : ByteArray := prog_5_method_24_code
def yX3_cycle : MethodName := ⟨RX3, "cycle", "()V"⟩
abbrev cX3_cycles : ByteArray := prog_5_method_25_code
def yX3_cycles : MethodName := ⟨RX3, "cycles", "(I)I"⟩
abbrev cX3_stage : ByteArray := prog_5_method_26_code
def yX3_stage : MethodName := ⟨RX3, "stage", "(I)I"⟩
abbrev cX3_counter : ByteArray := prog_5_method_27_code
def yX3_counter : MethodName := ⟨RX3, "counter", "(I)I"⟩
abbrev cX3_retired : ByteArray := prog_5_method_28_code
def yX3_retired : MethodName := ⟨RX3, "retired", "(I)I"⟩
abbrev cX3_count : ByteArray := prog_5_method_29_code
def yX3_count : MethodName := ⟨RX3, "count", "(I)I"⟩
abbrev cX3_pace : ByteArray := prog_5_method_30_code
def yX3_pace : MethodName := ⟨RX3, "pace", "()F"⟩
def RJ9 : String := "java/lang/Math"
def TJ9 : u_T := fun k => match k with
  | _ => ("", "", "", false)
def tyJ9 : Nat → FieldType := fun k => match k with
  | _ => .int
theorem nmJ9 : ∀ a, a < 0 → ∀ b, b < 0 → a ≠ b → (TJ9 a).2.1 ≠ (TJ9 b).2.1 := by decide +kernel
theorem tyJ9_ok : ∀ k, k < 0 → parseFieldDescriptor (TJ9 k).2.2.1 = some (tyJ9 k) := by decide +kernel
abbrev cJ9_floorMod_7cf53 : ByteArray := prog_9_method_50_code
def yJ9_floorMod_7cf53 : MethodName := ⟨RJ9, "floorMod", "(II)I"⟩
abbrev cJ9_max_7cf53 : ByteArray := prog_9_method_65_code
def yJ9_max_7cf53 : MethodName := ⟨RJ9, "max", "(II)I"⟩
abbrev cJ9_min_7cf53 : ByteArray := prog_9_method_69_code
def yJ9_min_7cf53 : MethodName := ⟨RJ9, "min", "(II)I"⟩
def RJ0 : String := "java/lang/String"
def TJ0 : u_T := fun k => match k with
  | _ => ("", "", "", false)
def tyJ0 : Nat → FieldType := fun k => match k with
  | _ => .int
theorem nmJ0 : ∀ a, a < 0 → ∀ b, b < 0 → a ≠ b → (TJ0 a).2.1 ≠ (TJ0 b).2.1 := by decide +kernel
theorem tyJ0_ok : ∀ k, k < 0 → parseFieldDescriptor (TJ0 k).2.2.1 = some (tyJ0 k) := by decide +kernel
def RL : String := "StageChipLaw"
abbrev cL_put : ByteArray := method_3_code
def yL_put : MethodName := ⟨RL, "put", "(LStageChip;IIIIII)I"⟩
abbrev cL_poke : ByteArray := method_4_code
def yL_poke : MethodName := ⟨RL, "poke", "(LStageChip;II[J)I"⟩
abbrev cL_peek : ByteArray := method_5_code
def yL_peek : MethodName := ⟨RL, "peek", "(LStageChip;I[J)I"⟩
abbrev cL_set : ByteArray := method_6_code
def yL_set : MethodName := ⟨RL, "set", "(LStageChip;II[J)I"⟩
abbrev cL_register : ByteArray := method_7_code
def yL_register : MethodName := ⟨RL, "register", "(LStageChip;I[J)I"⟩
abbrev cL_start : ByteArray := method_8_code
def yL_start : MethodName := ⟨RL, "start", "(LStageChip;I)I"⟩
abbrev cL_handler : ByteArray := method_9_code
def yL_handler : MethodName := ⟨RL, "handler", "(LStageChip;I[J)I"⟩
abbrev cL_cycles : ByteArray := method_10_code
def yL_cycles : MethodName := ⟨RL, "cycles", "(LStageChip;I[J)I"⟩
abbrev cL_stage : ByteArray := method_11_code
def yL_stage : MethodName := ⟨RL, "stage", "(LStageChip;I[J)I"⟩
abbrev cL_counter : ByteArray := method_12_code
def yL_counter : MethodName := ⟨RL, "counter", "(LStageChip;I[J)I"⟩
abbrev cL_retired : ByteArray := method_13_code
def yL_retired : MethodName := ⟨RL, "retired", "(LStageChip;I[J)I"⟩
abbrev cL_count : ByteArray := method_14_code
def yL_count : MethodName := ⟨RL, "count", "(LStageChip;I[J)I"⟩
abbrev cL_law : ByteArray := code
def yL_law : MethodName := ⟨RL, "law", "([I)Z"⟩
abbrev vwCl : List vw_C := [(RX0, TX0, 8), (RX1, TX1, 5), (RX2, TX2, 17), (RX3, TX3, 33)]
end
section
theorem dX0_init_0 : decode cX0_init 0 = .ok (.aload_n 0, 1) := by decide +kernel
theorem dX0_init_1 : decode cX0_init 1 = .ok (.invokespecial 3, 3) := by decide +kernel
theorem dX0_init_4 : decode cX0_init 4 = .ok (.aload_n 0, 1) := by decide +kernel
theorem dX0_init_5 : decode cX0_init 5 = .ok (.aload_n 1, 1) := by decide +kernel
theorem dX0_init_6 : decode cX0_init 6 = .ok (.putfield 9, 3) := by decide +kernel
theorem dX0_init_9 : decode cX0_init 9 = .ok (.return_, 1) := by decide +kernel
theorem dX0_does_0 : decode cX0_does 0 = .ok (.aload_n 0, 1) := by decide +kernel
theorem dX0_does_1 : decode cX0_does 1 = .ok (.getfield 15, 3) := by decide +kernel
theorem dX0_does_4 : decode cX0_does 4 = .ok (.ifCond .eq 25, 3) := by decide +kernel
theorem dX0_does_7 : decode cX0_does 7 = .ok (.aload_n 0, 1) := by decide +kernel
theorem dX0_does_8 : decode cX0_does 8 = .ok (.getfield 19, 3) := by decide +kernel
theorem dX0_does_11 : decode cX0_does 11 = .ok (.ifCond .ne 18, 3) := by decide +kernel
theorem dX0_does_14 : decode cX0_does 14 = .ok (.aload_n 0, 1) := by decide +kernel
theorem dX0_does_15 : decode cX0_does 15 = .ok (.getfield 9, 3) := by decide +kernel
theorem dX0_does_18 : decode cX0_does 18 = .ok (.getfield 23, 3) := by decide +kernel
theorem dX0_does_21 : decode cX0_does 21 = .ok (.iload_n 1, 1) := by decide +kernel
theorem dX0_does_22 : decode cX0_does 22 = .ok (.if_icmp .ne 7, 3) := by decide +kernel
theorem dX0_does_25 : decode cX0_does 25 = .ok (.iconst 1, 1) := by decide +kernel
theorem dX0_does_26 : decode cX0_does 26 = .ok (.goto 4, 3) := by decide +kernel
theorem dX0_does_29 : decode cX0_does 29 = .ok (.iconst 0, 1) := by decide +kernel
theorem dX0_does_30 : decode cX0_does 30 = .ok (.ireturn, 1) := by decide +kernel
theorem dX0_writes_0 : decode cX0_writes 0 = .ok (.aload_n 0, 1) := by decide +kernel
theorem dX0_writes_1 : decode cX0_writes 1 = .ok (.getfield 15, 3) := by decide +kernel
theorem dX0_writes_4 : decode cX0_writes 4 = .ok (.ifCond .eq 39, 3) := by decide +kernel
theorem dX0_writes_7 : decode cX0_writes 7 = .ok (.aload_n 0, 1) := by decide +kernel
theorem dX0_writes_8 : decode cX0_writes 8 = .ok (.getfield 19, 3) := by decide +kernel
theorem dX0_writes_11 : decode cX0_writes 11 = .ok (.ifCond .ne 32, 3) := by decide +kernel
theorem dX0_writes_14 : decode cX0_writes 14 = .ok (.iload_n 1, 1) := by decide +kernel
theorem dX0_writes_15 : decode cX0_writes 15 = .ok (.ifCond .eq 28, 3) := by decide +kernel
theorem dX0_writes_18 : decode cX0_writes 18 = .ok (.aload_n 0, 1) := by decide +kernel
theorem dX0_writes_19 : decode cX0_writes 19 = .ok (.getfield 9, 3) := by decide +kernel
theorem dX0_writes_22 : decode cX0_writes 22 = .ok (.invokevirtual 28, 3) := by decide +kernel
theorem dX0_writes_25 : decode cX0_writes 25 = .ok (.ifCond .eq 18, 3) := by decide +kernel
theorem dX0_writes_28 : decode cX0_writes 28 = .ok (.aload_n 0, 1) := by decide +kernel
theorem dX0_writes_29 : decode cX0_writes 29 = .ok (.getfield 9, 3) := by decide +kernel
theorem dX0_writes_32 : decode cX0_writes 32 = .ok (.getfield 32, 3) := by decide +kernel
theorem dX0_writes_35 : decode cX0_writes 35 = .ok (.iload_n 1, 1) := by decide +kernel
theorem dX0_writes_36 : decode cX0_writes 36 = .ok (.if_icmp .ne 7, 3) := by decide +kernel
theorem dX0_writes_39 : decode cX0_writes 39 = .ok (.iconst 1, 1) := by decide +kernel
theorem dX0_writes_40 : decode cX0_writes 40 = .ok (.goto 4, 3) := by decide +kernel
theorem dX0_writes_43 : decode cX0_writes 43 = .ok (.iconst 0, 1) := by decide +kernel
theorem dX0_writes_44 : decode cX0_writes 44 = .ok (.ireturn, 1) := by decide +kernel
theorem dX1_init_0 : decode cX1_init 0 = .ok (.aload_n 0, 1) := by decide +kernel
theorem dX1_init_1 : decode cX1_init 1 = .ok (.invokespecial 3, 3) := by decide +kernel
theorem dX1_init_4 : decode cX1_init 4 = .ok (.aload_n 0, 1) := by decide +kernel
theorem dX1_init_5 : decode cX1_init 5 = .ok (.iload_n 1, 1) := by decide +kernel
theorem dX1_init_6 : decode cX1_init 6 = .ok (.putfield 9, 3) := by decide +kernel
theorem dX1_init_9 : decode cX1_init 9 = .ok (.aload_n 0, 1) := by decide +kernel
theorem dX1_init_10 : decode cX1_init 10 = .ok (.iload_n 2, 1) := by decide +kernel
theorem dX1_init_11 : decode cX1_init 11 = .ok (.putfield 15, 3) := by decide +kernel
theorem dX1_init_14 : decode cX1_init 14 = .ok (.aload_n 0, 1) := by decide +kernel
theorem dX1_init_15 : decode cX1_init 15 = .ok (.iload_n 3, 1) := by decide +kernel
theorem dX1_init_16 : decode cX1_init 16 = .ok (.putfield 18, 3) := by decide +kernel
theorem dX1_init_19 : decode cX1_init 19 = .ok (.aload_n 0, 1) := by decide +kernel
theorem dX1_init_20 : decode cX1_init 20 = .ok (.iload 4, 2) := by decide +kernel
theorem dX1_init_22 : decode cX1_init 22 = .ok (.putfield 21, 3) := by decide +kernel
theorem dX1_init_25 : decode cX1_init 25 = .ok (.aload_n 0, 1) := by decide +kernel
theorem dX1_init_26 : decode cX1_init 26 = .ok (.iload 5, 2) := by decide +kernel
theorem dX1_init_28 : decode cX1_init 28 = .ok (.putfield 24, 3) := by decide +kernel
theorem dX1_init_31 : decode cX1_init 31 = .ok (.return_, 1) := by decide +kernel
theorem dX1_usesS_0 : decode cX1_usesS 0 = .ok (.aload_n 0, 1) := by decide +kernel
theorem dX1_usesS_1 : decode cX1_usesS 1 = .ok (.getfield 9, 3) := by decide +kernel
theorem dX1_usesS_4 : decode cX1_usesS 4 = .ok (.bipush 9, 2) := by decide +kernel
theorem dX1_usesS_6 : decode cX1_usesS 6 = .ok (.if_icmp .le 28, 3) := by decide +kernel
theorem dX1_usesS_9 : decode cX1_usesS 9 = .ok (.aload_n 0, 1) := by decide +kernel
theorem dX1_usesS_10 : decode cX1_usesS 10 = .ok (.getfield 9, 3) := by decide +kernel
theorem dX1_usesS_13 : decode cX1_usesS 13 = .ok (.bipush 11, 2) := by decide +kernel
theorem dX1_usesS_15 : decode cX1_usesS 15 = .ok (.if_icmp .eq 19, 3) := by decide +kernel
theorem dX1_usesS_18 : decode cX1_usesS 18 = .ok (.aload_n 0, 1) := by decide +kernel
theorem dX1_usesS_19 : decode cX1_usesS 19 = .ok (.getfield 9, 3) := by decide +kernel
theorem dX1_usesS_22 : decode cX1_usesS 22 = .ok (.bipush 16, 2) := by decide +kernel
theorem dX1_usesS_24 : decode cX1_usesS 24 = .ok (.if_icmp .eq 10, 3) := by decide +kernel
theorem dX1_usesS_27 : decode cX1_usesS 27 = .ok (.aload_n 0, 1) := by decide +kernel
theorem dX1_usesS_28 : decode cX1_usesS 28 = .ok (.invokevirtual 27, 3) := by decide +kernel
theorem dX1_usesS_31 : decode cX1_usesS 31 = .ok (.ifCond .eq 7, 3) := by decide +kernel
theorem dX1_usesS_34 : decode cX1_usesS 34 = .ok (.iconst 1, 1) := by decide +kernel
theorem dX1_usesS_35 : decode cX1_usesS 35 = .ok (.goto 4, 3) := by decide +kernel
theorem dX1_usesS_38 : decode cX1_usesS 38 = .ok (.iconst 0, 1) := by decide +kernel
theorem dX1_usesS_39 : decode cX1_usesS 39 = .ok (.ireturn, 1) := by decide +kernel
theorem dX1_usesT_0 : decode cX1_usesT 0 = .ok (.aload_n 0, 1) := by decide +kernel
theorem dX1_usesT_1 : decode cX1_usesT 1 = .ok (.getfield 9, 3) := by decide +kernel
theorem dX1_usesT_4 : decode cX1_usesT 4 = .ok (.bipush 8, 2) := by decide +kernel
theorem dX1_usesT_6 : decode cX1_usesT 6 = .ok (.if_icmp .le 19, 3) := by decide +kernel
theorem dX1_usesT_9 : decode cX1_usesT 9 = .ok (.aload_n 0, 1) := by decide +kernel
theorem dX1_usesT_10 : decode cX1_usesT 10 = .ok (.getfield 9, 3) := by decide +kernel
theorem dX1_usesT_13 : decode cX1_usesT 13 = .ok (.bipush 12, 2) := by decide +kernel
theorem dX1_usesT_15 : decode cX1_usesT 15 = .ok (.if_icmp .eq 10, 3) := by decide +kernel
theorem dX1_usesT_18 : decode cX1_usesT 18 = .ok (.aload_n 0, 1) := by decide +kernel
theorem dX1_usesT_19 : decode cX1_usesT 19 = .ok (.invokevirtual 31, 3) := by decide +kernel
theorem dX1_usesT_22 : decode cX1_usesT 22 = .ok (.ifCond .eq 7, 3) := by decide +kernel
theorem dX1_usesT_25 : decode cX1_usesT 25 = .ok (.iconst 1, 1) := by decide +kernel
theorem dX1_usesT_26 : decode cX1_usesT 26 = .ok (.goto 4, 3) := by decide +kernel
theorem dX1_usesT_29 : decode cX1_usesT 29 = .ok (.iconst 0, 1) := by decide +kernel
theorem dX1_usesT_30 : decode cX1_usesT 30 = .ok (.ireturn, 1) := by decide +kernel
theorem dX1_writesD_0 : decode cX1_writesD 0 = .ok (.aload_n 0, 1) := by decide +kernel
theorem dX1_writesD_1 : decode cX1_writesD 1 = .ok (.getfield 9, 3) := by decide +kernel
theorem dX1_writesD_4 : decode cX1_writesD 4 = .ok (.bipush 11, 2) := by decide +kernel
theorem dX1_writesD_6 : decode cX1_writesD 6 = .ok (.if_icmp .le 21, 3) := by decide +kernel
theorem dX1_writesD_9 : decode cX1_writesD 9 = .ok (.aload_n 0, 1) := by decide +kernel
theorem dX1_writesD_10 : decode cX1_writesD 10 = .ok (.getfield 9, 3) := by decide +kernel
theorem dX1_writesD_13 : decode cX1_writesD 13 = .ok (.bipush 15, 2) := by decide +kernel
theorem dX1_writesD_15 : decode cX1_writesD 15 = .ok (.if_icmp .eq 12, 3) := by decide +kernel
theorem dX1_writesD_18 : decode cX1_writesD 18 = .ok (.aload_n 0, 1) := by decide +kernel
theorem dX1_writesD_19 : decode cX1_writesD 19 = .ok (.getfield 9, 3) := by decide +kernel
theorem dX1_writesD_22 : decode cX1_writesD 22 = .ok (.bipush 16, 2) := by decide +kernel
theorem dX1_writesD_24 : decode cX1_writesD 24 = .ok (.if_icmp .ne 7, 3) := by decide +kernel
theorem dX1_writesD_27 : decode cX1_writesD 27 = .ok (.iconst 1, 1) := by decide +kernel
theorem dX1_writesD_28 : decode cX1_writesD 28 = .ok (.goto 4, 3) := by decide +kernel
theorem dX1_writesD_31 : decode cX1_writesD 31 = .ok (.iconst 0, 1) := by decide +kernel
theorem dX1_writesD_32 : decode cX1_writesD 32 = .ok (.ireturn, 1) := by decide +kernel
theorem dX1_isBranch_0 : decode cX1_isBranch 0 = .ok (.aload_n 0, 1) := by decide +kernel
theorem dX1_isBranch_1 : decode cX1_isBranch 1 = .ok (.getfield 9, 3) := by decide +kernel
theorem dX1_isBranch_4 : decode cX1_isBranch 4 = .ok (.bipush 13, 2) := by decide +kernel
theorem dX1_isBranch_6 : decode cX1_isBranch 6 = .ok (.if_icmp .eq 12, 3) := by decide +kernel
theorem dX1_isBranch_9 : decode cX1_isBranch 9 = .ok (.aload_n 0, 1) := by decide +kernel
theorem dX1_isBranch_10 : decode cX1_isBranch 10 = .ok (.getfield 9, 3) := by decide +kernel
theorem dX1_isBranch_13 : decode cX1_isBranch 13 = .ok (.bipush 14, 2) := by decide +kernel
theorem dX1_isBranch_15 : decode cX1_isBranch 15 = .ok (.if_icmp .ne 7, 3) := by decide +kernel
theorem dX1_isBranch_18 : decode cX1_isBranch 18 = .ok (.iconst 1, 1) := by decide +kernel
theorem dX1_isBranch_19 : decode cX1_isBranch 19 = .ok (.goto 4, 3) := by decide +kernel
theorem dX1_isBranch_22 : decode cX1_isBranch 22 = .ok (.iconst 0, 1) := by decide +kernel
theorem dX1_isBranch_23 : decode cX1_isBranch 23 = .ok (.ireturn, 1) := by decide +kernel
theorem dX1_touchesData_0 : decode cX1_touchesData 0 = .ok (.aload_n 0, 1) := by decide +kernel
theorem dX1_touchesData_1 : decode cX1_touchesData 1 = .ok (.getfield 9, 3) := by decide +kernel
theorem dX1_touchesData_4 : decode cX1_touchesData 4 = .ok (.bipush 11, 2) := by decide +kernel
theorem dX1_touchesData_6 : decode cX1_touchesData 6 = .ok (.if_icmp .eq 12, 3) := by decide +kernel
theorem dX1_touchesData_9 : decode cX1_touchesData 9 = .ok (.aload_n 0, 1) := by decide +kernel
theorem dX1_touchesData_10 : decode cX1_touchesData 10 = .ok (.getfield 9, 3) := by decide +kernel
theorem dX1_touchesData_13 : decode cX1_touchesData 13 = .ok (.bipush 12, 2) := by decide +kernel
theorem dX1_touchesData_15 : decode cX1_touchesData 15 = .ok (.if_icmp .ne 7, 3) := by decide +kernel
theorem dX1_touchesData_18 : decode cX1_touchesData 18 = .ok (.iconst 1, 1) := by decide +kernel
theorem dX1_touchesData_19 : decode cX1_touchesData 19 = .ok (.goto 4, 3) := by decide +kernel
theorem dX1_touchesData_22 : decode cX1_touchesData 22 = .ok (.iconst 0, 1) := by decide +kernel
theorem dX1_touchesData_23 : decode cX1_touchesData 23 = .ok (.ireturn, 1) := by decide +kernel
theorem dX1_workCycles_0 : decode cX1_workCycles 0 = .ok (.aload_n 0, 1) := by decide +kernel
theorem dX1_workCycles_1 : decode cX1_workCycles 1 = .ok (.getfield 9, 3) := by decide +kernel
theorem dX1_workCycles_4 : decode cX1_workCycles 4 = .ok (.bipush 7, 2) := by decide +kernel
theorem dX1_workCycles_6 : decode cX1_workCycles 6 = .ok (.if_icmp .ne 5, 3) := by decide +kernel
theorem dX1_workCycles_9 : decode cX1_workCycles 9 = .ok (.iconst 3, 1) := by decide +kernel
theorem dX1_workCycles_10 : decode cX1_workCycles 10 = .ok (.ireturn, 1) := by decide +kernel
theorem dX1_workCycles_11 : decode cX1_workCycles 11 = .ok (.aload_n 0, 1) := by decide +kernel
theorem dX1_workCycles_12 : decode cX1_workCycles 12 = .ok (.getfield 9, 3) := by decide +kernel
theorem dX1_workCycles_15 : decode cX1_workCycles 15 = .ok (.bipush 8, 2) := by decide +kernel
theorem dX1_workCycles_17 : decode cX1_workCycles 17 = .ok (.if_icmp .ne 8, 3) := by decide +kernel
theorem dX1_workCycles_20 : decode cX1_workCycles 20 = .ok (.bipush 6, 2) := by decide +kernel
theorem dX1_workCycles_22 : decode cX1_workCycles 22 = .ok (.goto 4, 3) := by decide +kernel
theorem dX1_workCycles_25 : decode cX1_workCycles 25 = .ok (.iconst 1, 1) := by decide +kernel
theorem dX1_workCycles_26 : decode cX1_workCycles 26 = .ok (.ireturn, 1) := by decide +kernel
theorem dX2_init_0 : decode cX2_init 0 = .ok (.aload_n 0, 1) := by decide +kernel
theorem dX2_init_1 : decode cX2_init 1 = .ok (.invokespecial 1, 3) := by decide +kernel
theorem dX2_init_4 : decode cX2_init 4 = .ok (.aload_n 0, 1) := by decide +kernel
theorem dX2_init_5 : decode cX2_init 5 = .ok (.new 7, 3) := by decide +kernel
theorem dX2_init_8 : decode cX2_init 8 = .ok (.dup, 1) := by decide +kernel
theorem dX2_init_9 : decode cX2_init 9 = .ok (.bipush 19, 2) := by decide +kernel
theorem dX2_init_11 : decode cX2_init 11 = .ok (.iconst 0, 1) := by decide +kernel
theorem dX2_init_12 : decode cX2_init 12 = .ok (.iconst 0, 1) := by decide +kernel
theorem dX2_init_13 : decode cX2_init 13 = .ok (.iconst 0, 1) := by decide +kernel
theorem dX2_init_14 : decode cX2_init 14 = .ok (.iconst 0, 1) := by decide +kernel
theorem dX2_init_15 : decode cX2_init 15 = .ok (.invokespecial 11, 3) := by decide +kernel
theorem dX2_init_18 : decode cX2_init 18 = .ok (.putfield 14, 3) := by decide +kernel
theorem dX2_init_21 : decode cX2_init 21 = .ok (.aload_n 0, 1) := by decide +kernel
theorem dX2_init_22 : decode cX2_init 22 = .ok (.bipush 64, 2) := by decide +kernel
theorem dX2_init_24 : decode cX2_init 24 = .ok (.anewarray 7, 3) := by decide +kernel
theorem dX2_init_27 : decode cX2_init 27 = .ok (.putfield 18, 3) := by decide +kernel
theorem dX2_init_30 : decode cX2_init 30 = .ok (.iconst 0, 1) := by decide +kernel
theorem dX2_init_31 : decode cX2_init 31 = .ok (.istore_n 1, 1) := by decide +kernel
theorem dX2_init_32 : decode cX2_init 32 = .ok (.iload_n 1, 1) := by decide +kernel
theorem dX2_init_33 : decode cX2_init 33 = .ok (.bipush 64, 2) := by decide +kernel
theorem dX2_init_35 : decode cX2_init 35 = .ok (.if_icmp .ge 19, 3) := by decide +kernel
theorem dX2_init_38 : decode cX2_init 38 = .ok (.aload_n 0, 1) := by decide +kernel
theorem dX2_init_39 : decode cX2_init 39 = .ok (.getfield 18, 3) := by decide +kernel
theorem dX2_init_42 : decode cX2_init 42 = .ok (.iload_n 1, 1) := by decide +kernel
theorem dX2_init_43 : decode cX2_init 43 = .ok (.aload_n 0, 1) := by decide +kernel
theorem dX2_init_44 : decode cX2_init 44 = .ok (.getfield 14, 3) := by decide +kernel
theorem dX2_init_47 : decode cX2_init 47 = .ok (.aastore, 1) := by decide +kernel
theorem dX2_init_48 : decode cX2_init 48 = .ok (.iinc 1 1, 3) := by decide +kernel
theorem dX2_init_51 : decode cX2_init 51 = .ok (.goto (-19), 3) := by decide +kernel
theorem dX2_init_54 : decode cX2_init 54 = .ok (.aload_n 0, 1) := by decide +kernel
theorem dX2_init_55 : decode cX2_init 55 = .ok (.bipush 32, 2) := by decide +kernel
theorem dX2_init_57 : decode cX2_init 57 = .ok (.newarray .int, 2) := by decide +kernel
theorem dX2_init_59 : decode cX2_init 59 = .ok (.putfield 22, 3) := by decide +kernel
theorem dX2_init_62 : decode cX2_init 62 = .ok (.aload_n 0, 1) := by decide +kernel
theorem dX2_init_63 : decode cX2_init 63 = .ok (.bipush 16, 2) := by decide +kernel
theorem dX2_init_65 : decode cX2_init 65 = .ok (.newarray .int, 2) := by decide +kernel
theorem dX2_init_67 : decode cX2_init 67 = .ok (.putfield 26, 3) := by decide +kernel
theorem dX2_init_70 : decode cX2_init 70 = .ok (.aload_n 0, 1) := by decide +kernel
theorem dX2_init_71 : decode cX2_init 71 = .ok (.bipush 8, 2) := by decide +kernel
theorem dX2_init_73 : decode cX2_init 73 = .ok (.newarray .int, 2) := by decide +kernel
theorem dX2_init_75 : decode cX2_init 75 = .ok (.putfield 29, 3) := by decide +kernel
theorem dX2_init_78 : decode cX2_init 78 = .ok (.iconst 0, 1) := by decide +kernel
theorem dX2_init_79 : decode cX2_init 79 = .ok (.istore_n 1, 1) := by decide +kernel
theorem dX2_init_80 : decode cX2_init 80 = .ok (.iload_n 1, 1) := by decide +kernel
theorem dX2_init_81 : decode cX2_init 81 = .ok (.bipush 8, 2) := by decide +kernel
theorem dX2_init_83 : decode cX2_init 83 = .ok (.if_icmp .ge 16, 3) := by decide +kernel
theorem dX2_init_86 : decode cX2_init 86 = .ok (.aload_n 0, 1) := by decide +kernel
theorem dX2_init_87 : decode cX2_init 87 = .ok (.getfield 29, 3) := by decide +kernel
theorem dX2_init_90 : decode cX2_init 90 = .ok (.iload_n 1, 1) := by decide +kernel
theorem dX2_init_91 : decode cX2_init 91 = .ok (.iconst 1, 1) := by decide +kernel
theorem dX2_init_92 : decode cX2_init 92 = .ok (.iastore, 1) := by decide +kernel
theorem dX2_init_93 : decode cX2_init 93 = .ok (.iinc 1 1, 3) := by decide +kernel
theorem dX2_init_96 : decode cX2_init 96 = .ok (.goto (-16), 3) := by decide +kernel
theorem dX2_init_99 : decode cX2_init 99 = .ok (.aload_n 0, 1) := by decide +kernel
theorem dX2_init_100 : decode cX2_init 100 = .ok (.iconst 5, 1) := by decide +kernel
theorem dX2_init_101 : decode cX2_init 101 = .ok (.anewarray 32, 3) := by decide +kernel
theorem dX2_init_104 : decode cX2_init 104 = .ok (.putfield 34, 3) := by decide +kernel
theorem dX2_init_107 : decode cX2_init 107 = .ok (.iconst 0, 1) := by decide +kernel
theorem dX2_init_108 : decode cX2_init 108 = .ok (.istore_n 1, 1) := by decide +kernel
theorem dX2_init_109 : decode cX2_init 109 = .ok (.iload_n 1, 1) := by decide +kernel
theorem dX2_init_110 : decode cX2_init 110 = .ok (.iconst 5, 1) := by decide +kernel
theorem dX2_init_111 : decode cX2_init 111 = .ok (.if_icmp .ge 26, 3) := by decide +kernel
theorem dX2_init_114 : decode cX2_init 114 = .ok (.aload_n 0, 1) := by decide +kernel
theorem dX2_init_115 : decode cX2_init 115 = .ok (.getfield 34, 3) := by decide +kernel
theorem dX2_init_118 : decode cX2_init 118 = .ok (.iload_n 1, 1) := by decide +kernel
theorem dX2_init_119 : decode cX2_init 119 = .ok (.new 32, 3) := by decide +kernel
theorem dX2_init_122 : decode cX2_init 122 = .ok (.dup, 1) := by decide +kernel
theorem dX2_init_123 : decode cX2_init 123 = .ok (.aload_n 0, 1) := by decide +kernel
theorem dX2_init_124 : decode cX2_init 124 = .ok (.getfield 14, 3) := by decide +kernel
theorem dX2_init_127 : decode cX2_init 127 = .ok (.invokespecial 38, 3) := by decide +kernel
theorem dX2_init_130 : decode cX2_init 130 = .ok (.aastore, 1) := by decide +kernel
theorem dX2_init_131 : decode cX2_init 131 = .ok (.iinc 1 1, 3) := by decide +kernel
theorem dX2_init_134 : decode cX2_init 134 = .ok (.goto (-25), 3) := by decide +kernel
theorem dX2_init_137 : decode cX2_init 137 = .ok (.aload_n 0, 1) := by decide +kernel
theorem dX2_init_138 : decode cX2_init 138 = .ok (.bipush 16, 2) := by decide +kernel
theorem dX2_init_140 : decode cX2_init 140 = .ok (.newarray .int, 2) := by decide +kernel
theorem dX2_init_142 : decode cX2_init 142 = .ok (.putfield 41, 3) := by decide +kernel
theorem dX2_init_145 : decode cX2_init 145 = .ok (.return_, 1) := by decide +kernel
theorem dX2_put_0 : decode cX2_put 0 = .ok (.iload_n 1, 1) := by decide +kernel
theorem dX2_put_1 : decode cX2_put 1 = .ok (.bipush 64, 2) := by decide +kernel
theorem dX2_put_3 : decode cX2_put 3 = .ok (.invokestatic 44, 3) := by decide +kernel
theorem dX2_put_6 : decode cX2_put 6 = .ok (.iload_n 2, 1) := by decide +kernel
theorem dX2_put_7 : decode cX2_put 7 = .ok (.iconst 0, 1) := by decide +kernel
theorem dX2_put_8 : decode cX2_put 8 = .ok (.bipush 19, 2) := by decide +kernel
theorem dX2_put_10 : decode cX2_put 10 = .ok (.invokestatic 48, 3) := by decide +kernel
theorem dX2_put_13 : decode cX2_put 13 = .ok (.iload_n 3, 1) := by decide +kernel
theorem dX2_put_14 : decode cX2_put 14 = .ok (.iconst 0, 1) := by decide +kernel
theorem dX2_put_15 : decode cX2_put 15 = .ok (.bipush 15, 2) := by decide +kernel
theorem dX2_put_17 : decode cX2_put 17 = .ok (.invokestatic 48, 3) := by decide +kernel
theorem dX2_put_20 : decode cX2_put 20 = .ok (.iload 4, 2) := by decide +kernel
theorem dX2_put_22 : decode cX2_put 22 = .ok (.iconst 0, 1) := by decide +kernel
theorem dX2_put_23 : decode cX2_put 23 = .ok (.bipush 15, 2) := by decide +kernel
theorem dX2_put_25 : decode cX2_put 25 = .ok (.invokestatic 48, 3) := by decide +kernel
theorem dX2_put_28 : decode cX2_put 28 = .ok (.iload 5, 2) := by decide +kernel
theorem dX2_put_30 : decode cX2_put 30 = .ok (.iconst 0, 1) := by decide +kernel
theorem dX2_put_31 : decode cX2_put 31 = .ok (.bipush 15, 2) := by decide +kernel
theorem dX2_put_33 : decode cX2_put 33 = .ok (.invokestatic 48, 3) := by decide +kernel
theorem dX2_put_36 : decode cX2_put 36 = .ok (.iload 6, 2) := by decide +kernel
theorem dX2_put_38 : decode cX2_put 38 = .ok (.bipush (-64), 2) := by decide +kernel
theorem dX2_put_40 : decode cX2_put 40 = .ok (.bipush 63, 2) := by decide +kernel
theorem dX2_put_42 : decode cX2_put 42 = .ok (.invokestatic 48, 3) := by decide +kernel
theorem dX2_put_45 : decode cX2_put 45 = .ok (.aload_n 0, 1) := by decide +kernel
theorem dX2_put_46 : decode cX2_put 46 = .ok (.getfield 18, 3) := by decide +kernel
theorem dX2_put_49 : decode cX2_put 49 = .ok (.iload_n 1, 1) := by decide +kernel
theorem dX2_put_50 : decode cX2_put 50 = .ok (.new 7, 3) := by decide +kernel
theorem dX2_put_53 : decode cX2_put 53 = .ok (.dup, 1) := by decide +kernel
theorem dX2_put_54 : decode cX2_put 54 = .ok (.iload_n 2, 1) := by decide +kernel
theorem dX2_put_55 : decode cX2_put 55 = .ok (.iload_n 3, 1) := by decide +kernel
theorem dX2_put_56 : decode cX2_put 56 = .ok (.iload 4, 2) := by decide +kernel
theorem dX2_put_58 : decode cX2_put 58 = .ok (.iload 5, 2) := by decide +kernel
theorem dX2_put_60 : decode cX2_put 60 = .ok (.iload 6, 2) := by decide +kernel
theorem dX2_put_62 : decode cX2_put 62 = .ok (.invokespecial 11, 3) := by decide +kernel
theorem dX2_put_65 : decode cX2_put 65 = .ok (.aastore, 1) := by decide +kernel
theorem dX2_put_66 : decode cX2_put 66 = .ok (.return_, 1) := by decide +kernel
theorem dX2_poke_0 : decode cX2_poke 0 = .ok (.iload_n 1, 1) := by decide +kernel
theorem dX2_poke_1 : decode cX2_poke 1 = .ok (.bipush 32, 2) := by decide +kernel
theorem dX2_poke_3 : decode cX2_poke 3 = .ok (.invokestatic 44, 3) := by decide +kernel
theorem dX2_poke_6 : decode cX2_poke 6 = .ok (.aload_n 0, 1) := by decide +kernel
theorem dX2_poke_7 : decode cX2_poke 7 = .ok (.getfield 22, 3) := by decide +kernel
theorem dX2_poke_10 : decode cX2_poke 10 = .ok (.iload_n 1, 1) := by decide +kernel
theorem dX2_poke_11 : decode cX2_poke 11 = .ok (.iaload, 1) := by decide +kernel
theorem dX2_poke_12 : decode cX2_poke 12 = .ok (.istore_n 3, 1) := by decide +kernel
theorem dX2_poke_13 : decode cX2_poke 13 = .ok (.aload_n 0, 1) := by decide +kernel
theorem dX2_poke_14 : decode cX2_poke 14 = .ok (.getfield 22, 3) := by decide +kernel
theorem dX2_poke_17 : decode cX2_poke 17 = .ok (.iload_n 1, 1) := by decide +kernel
theorem dX2_poke_18 : decode cX2_poke 18 = .ok (.iload_n 2, 1) := by decide +kernel
theorem dX2_poke_19 : decode cX2_poke 19 = .ok (.iastore, 1) := by decide +kernel
theorem dX2_poke_20 : decode cX2_poke 20 = .ok (.iload_n 3, 1) := by decide +kernel
theorem dX2_poke_21 : decode cX2_poke 21 = .ok (.ireturn, 1) := by decide +kernel
theorem dX2_peek_0 : decode cX2_peek 0 = .ok (.iload_n 1, 1) := by decide +kernel
theorem dX2_peek_1 : decode cX2_peek 1 = .ok (.bipush 32, 2) := by decide +kernel
theorem dX2_peek_3 : decode cX2_peek 3 = .ok (.invokestatic 44, 3) := by decide +kernel
theorem dX2_peek_6 : decode cX2_peek 6 = .ok (.aload_n 0, 1) := by decide +kernel
theorem dX2_peek_7 : decode cX2_peek 7 = .ok (.getfield 22, 3) := by decide +kernel
theorem dX2_peek_10 : decode cX2_peek 10 = .ok (.iload_n 1, 1) := by decide +kernel
theorem dX2_peek_11 : decode cX2_peek 11 = .ok (.iaload, 1) := by decide +kernel
theorem dX2_peek_12 : decode cX2_peek 12 = .ok (.ireturn, 1) := by decide +kernel
theorem dX2_set_0 : decode cX2_set 0 = .ok (.iload_n 1, 1) := by decide +kernel
theorem dX2_set_1 : decode cX2_set 1 = .ok (.bipush 16, 2) := by decide +kernel
theorem dX2_set_3 : decode cX2_set 3 = .ok (.invokestatic 44, 3) := by decide +kernel
theorem dX2_set_6 : decode cX2_set 6 = .ok (.iload_n 1, 1) := by decide +kernel
theorem dX2_set_7 : decode cX2_set 7 = .ok (.ifCond .ne 13, 3) := by decide +kernel
theorem dX2_set_10 : decode cX2_set 10 = .ok (.new 52, 3) := by decide +kernel
theorem dX2_set_13 : decode cX2_set 13 = .ok (.dup, 1) := by decide +kernel
theorem dX2_set_14 : decode cX2_set 14 = .ok (.ldc 54, 2) := by decide +kernel
theorem dX2_set_16 : decode cX2_set 16 = .ok (.invokespecial 56, 3) := by decide +kernel
theorem dX2_set_19 : decode cX2_set 19 = .ok (.athrow, 1) := by decide +kernel
theorem dX2_set_20 : decode cX2_set 20 = .ok (.aload_n 0, 1) := by decide +kernel
theorem dX2_set_21 : decode cX2_set 21 = .ok (.getfield 26, 3) := by decide +kernel
theorem dX2_set_24 : decode cX2_set 24 = .ok (.iload_n 1, 1) := by decide +kernel
theorem dX2_set_25 : decode cX2_set 25 = .ok (.iaload, 1) := by decide +kernel
theorem dX2_set_26 : decode cX2_set 26 = .ok (.istore_n 3, 1) := by decide +kernel
theorem dX2_set_27 : decode cX2_set 27 = .ok (.aload_n 0, 1) := by decide +kernel
theorem dX2_set_28 : decode cX2_set 28 = .ok (.getfield 26, 3) := by decide +kernel
theorem dX2_set_31 : decode cX2_set 31 = .ok (.iload_n 1, 1) := by decide +kernel
theorem dX2_set_32 : decode cX2_set 32 = .ok (.iload_n 2, 1) := by decide +kernel
theorem dX2_set_33 : decode cX2_set 33 = .ok (.iastore, 1) := by decide +kernel
theorem dX2_set_34 : decode cX2_set 34 = .ok (.iload_n 3, 1) := by decide +kernel
theorem dX2_set_35 : decode cX2_set 35 = .ok (.ireturn, 1) := by decide +kernel
theorem dX2_register_0 : decode cX2_register 0 = .ok (.iload_n 1, 1) := by decide +kernel
theorem dX2_register_1 : decode cX2_register 1 = .ok (.bipush 16, 2) := by decide +kernel
theorem dX2_register_3 : decode cX2_register 3 = .ok (.invokestatic 44, 3) := by decide +kernel
theorem dX2_register_6 : decode cX2_register 6 = .ok (.aload_n 0, 1) := by decide +kernel
theorem dX2_register_7 : decode cX2_register 7 = .ok (.getfield 26, 3) := by decide +kernel
theorem dX2_register_10 : decode cX2_register 10 = .ok (.iload_n 1, 1) := by decide +kernel
theorem dX2_register_11 : decode cX2_register 11 = .ok (.iaload, 1) := by decide +kernel
theorem dX2_register_12 : decode cX2_register 12 = .ok (.ireturn, 1) := by decide +kernel
theorem dX2_start_0 : decode cX2_start 0 = .ok (.iload_n 1, 1) := by decide +kernel
theorem dX2_start_1 : decode cX2_start 1 = .ok (.bipush 64, 2) := by decide +kernel
theorem dX2_start_3 : decode cX2_start 3 = .ok (.invokestatic 44, 3) := by decide +kernel
theorem dX2_start_6 : decode cX2_start 6 = .ok (.aload_n 0, 1) := by decide +kernel
theorem dX2_start_7 : decode cX2_start 7 = .ok (.iconst 5, 1) := by decide +kernel
theorem dX2_start_8 : decode cX2_start 8 = .ok (.invokevirtual 59, 3) := by decide +kernel
theorem dX2_start_11 : decode cX2_start 11 = .ok (.aload_n 0, 1) := by decide +kernel
theorem dX2_start_12 : decode cX2_start 12 = .ok (.iload_n 1, 1) := by decide +kernel
theorem dX2_start_13 : decode cX2_start 13 = .ok (.putfield 63, 3) := by decide +kernel
theorem dX2_start_16 : decode cX2_start 16 = .ok (.aload_n 0, 1) := by decide +kernel
theorem dX2_start_17 : decode cX2_start 17 = .ok (.iconst 0, 1) := by decide +kernel
theorem dX2_start_18 : decode cX2_start 18 = .ok (.putfield 67, 3) := by decide +kernel
theorem dX2_start_21 : decode cX2_start 21 = .ok (.return_, 1) := by decide +kernel
theorem dX2_handler_0 : decode cX2_handler 0 = .ok (.iload_n 1, 1) := by decide +kernel
theorem dX2_handler_1 : decode cX2_handler 1 = .ok (.bipush 64, 2) := by decide +kernel
theorem dX2_handler_3 : decode cX2_handler 3 = .ok (.invokestatic 44, 3) := by decide +kernel
theorem dX2_handler_6 : decode cX2_handler 6 = .ok (.aload_n 0, 1) := by decide +kernel
theorem dX2_handler_7 : decode cX2_handler 7 = .ok (.getfield 71, 3) := by decide +kernel
theorem dX2_handler_10 : decode cX2_handler 10 = .ok (.istore_n 2, 1) := by decide +kernel
theorem dX2_handler_11 : decode cX2_handler 11 = .ok (.aload_n 0, 1) := by decide +kernel
theorem dX2_handler_12 : decode cX2_handler 12 = .ok (.iload_n 1, 1) := by decide +kernel
theorem dX2_handler_13 : decode cX2_handler 13 = .ok (.putfield 71, 3) := by decide +kernel
theorem dX2_handler_16 : decode cX2_handler 16 = .ok (.iload_n 2, 1) := by decide +kernel
theorem dX2_handler_17 : decode cX2_handler 17 = .ok (.ireturn, 1) := by decide +kernel
theorem dX2_cycles_0 : decode cX2_cycles 0 = .ok (.iload_n 1, 1) := by decide +kernel
theorem dX2_cycles_1 : decode cX2_cycles 1 = .ok (.iconst 1, 1) := by decide +kernel
theorem dX2_cycles_2 : decode cX2_cycles 2 = .ok (.sipush 300, 3) := by decide +kernel
theorem dX2_cycles_5 : decode cX2_cycles 5 = .ok (.invokestatic 48, 3) := by decide +kernel
theorem dX2_cycles_8 : decode cX2_cycles 8 = .ok (.aload_n 0, 1) := by decide +kernel
theorem dX2_cycles_9 : decode cX2_cycles 9 = .ok (.getfield 74, 3) := by decide +kernel
theorem dX2_cycles_12 : decode cX2_cycles 12 = .ok (.istore_n 2, 1) := by decide +kernel
theorem dX2_cycles_13 : decode cX2_cycles 13 = .ok (.iconst 0, 1) := by decide +kernel
theorem dX2_cycles_14 : decode cX2_cycles 14 = .ok (.istore_n 3, 1) := by decide +kernel
theorem dX2_cycles_15 : decode cX2_cycles 15 = .ok (.iload_n 3, 1) := by decide +kernel
theorem dX2_cycles_16 : decode cX2_cycles 16 = .ok (.iload_n 1, 1) := by decide +kernel
theorem dX2_cycles_17 : decode cX2_cycles 17 = .ok (.if_icmp .ge 20, 3) := by decide +kernel
theorem dX2_cycles_20 : decode cX2_cycles 20 = .ok (.aload_n 0, 1) := by decide +kernel
theorem dX2_cycles_21 : decode cX2_cycles 21 = .ok (.getfield 67, 3) := by decide +kernel
theorem dX2_cycles_24 : decode cX2_cycles 24 = .ok (.ifCond .ne 13, 3) := by decide +kernel
theorem dX2_cycles_27 : decode cX2_cycles 27 = .ok (.aload_n 0, 1) := by decide +kernel
theorem dX2_cycles_28 : decode cX2_cycles 28 = .ok (.invokevirtual 77, 3) := by decide +kernel
theorem dX2_cycles_31 : decode cX2_cycles 31 = .ok (.iinc 3 1, 3) := by decide +kernel
theorem dX2_cycles_34 : decode cX2_cycles 34 = .ok (.goto (-19), 3) := by decide +kernel
theorem dX2_cycles_37 : decode cX2_cycles 37 = .ok (.aload_n 0, 1) := by decide +kernel
theorem dX2_cycles_38 : decode cX2_cycles 38 = .ok (.getfield 74, 3) := by decide +kernel
theorem dX2_cycles_41 : decode cX2_cycles 41 = .ok (.iload_n 2, 1) := by decide +kernel
theorem dX2_cycles_42 : decode cX2_cycles 42 = .ok (.isub, 1) := by decide +kernel
theorem dX2_cycles_43 : decode cX2_cycles 43 = .ok (.ireturn, 1) := by decide +kernel
theorem dX2_stage_0 : decode cX2_stage 0 = .ok (.iload_n 1, 1) := by decide +kernel
theorem dX2_stage_1 : decode cX2_stage 1 = .ok (.iconst 5, 1) := by decide +kernel
theorem dX2_stage_2 : decode cX2_stage 2 = .ok (.invokestatic 44, 3) := by decide +kernel
theorem dX2_stage_5 : decode cX2_stage 5 = .ok (.aload_n 0, 1) := by decide +kernel
theorem dX2_stage_6 : decode cX2_stage 6 = .ok (.getfield 34, 3) := by decide +kernel
theorem dX2_stage_9 : decode cX2_stage 9 = .ok (.iload_n 1, 1) := by decide +kernel
theorem dX2_stage_10 : decode cX2_stage 10 = .ok (.aaload, 1) := by decide +kernel
theorem dX2_stage_11 : decode cX2_stage 11 = .ok (.astore_n 2, 1) := by decide +kernel
theorem dX2_stage_12 : decode cX2_stage 12 = .ok (.aload_n 2, 1) := by decide +kernel
theorem dX2_stage_13 : decode cX2_stage 13 = .ok (.getfield 80, 3) := by decide +kernel
theorem dX2_stage_16 : decode cX2_stage 16 = .ok (.ifCond .eq 10, 3) := by decide +kernel
theorem dX2_stage_19 : decode cX2_stage 19 = .ok (.aload_n 2, 1) := by decide +kernel
theorem dX2_stage_20 : decode cX2_stage 20 = .ok (.getfield 83, 3) := by decide +kernel
theorem dX2_stage_23 : decode cX2_stage 23 = .ok (.goto 4, 3) := by decide +kernel
theorem dX2_stage_26 : decode cX2_stage 26 = .ok (.iconst (-1), 1) := by decide +kernel
theorem dX2_stage_27 : decode cX2_stage 27 = .ok (.ireturn, 1) := by decide +kernel
theorem dX2_counter_0 : decode cX2_counter 0 = .ok (.iload_n 1, 1) := by decide +kernel
theorem dX2_counter_1 : decode cX2_counter 1 = .ok (.bipush 8, 2) := by decide +kernel
theorem dX2_counter_3 : decode cX2_counter 3 = .ok (.invokestatic 44, 3) := by decide +kernel
theorem dX2_counter_6 : decode cX2_counter 6 = .ok (.aload_n 0, 1) := by decide +kernel
theorem dX2_counter_7 : decode cX2_counter 7 = .ok (.getfield 29, 3) := by decide +kernel
theorem dX2_counter_10 : decode cX2_counter 10 = .ok (.iload_n 1, 1) := by decide +kernel
theorem dX2_counter_11 : decode cX2_counter 11 = .ok (.iaload, 1) := by decide +kernel
theorem dX2_counter_12 : decode cX2_counter 12 = .ok (.ireturn, 1) := by decide +kernel
theorem dX2_retired_0 : decode cX2_retired 0 = .ok (.iload_n 1, 1) := by decide +kernel
theorem dX2_retired_1 : decode cX2_retired 1 = .ok (.aload_n 0, 1) := by decide +kernel
theorem dX2_retired_2 : decode cX2_retired 2 = .ok (.getfield 74, 3) := by decide +kernel
theorem dX2_retired_5 : decode cX2_retired 5 = .ok (.bipush 16, 2) := by decide +kernel
theorem dX2_retired_7 : decode cX2_retired 7 = .ok (.invokestatic 86, 3) := by decide +kernel
theorem dX2_retired_10 : decode cX2_retired 10 = .ok (.invokestatic 44, 3) := by decide +kernel
theorem dX2_retired_13 : decode cX2_retired 13 = .ok (.aload_n 0, 1) := by decide +kernel
theorem dX2_retired_14 : decode cX2_retired 14 = .ok (.getfield 41, 3) := by decide +kernel
theorem dX2_retired_17 : decode cX2_retired 17 = .ok (.aload_n 0, 1) := by decide +kernel
theorem dX2_retired_18 : decode cX2_retired 18 = .ok (.getfield 74, 3) := by decide +kernel
theorem dX2_retired_21 : decode cX2_retired 21 = .ok (.iconst 1, 1) := by decide +kernel
theorem dX2_retired_22 : decode cX2_retired 22 = .ok (.isub, 1) := by decide +kernel
theorem dX2_retired_23 : decode cX2_retired 23 = .ok (.iload_n 1, 1) := by decide +kernel
theorem dX2_retired_24 : decode cX2_retired 24 = .ok (.isub, 1) := by decide +kernel
theorem dX2_retired_25 : decode cX2_retired 25 = .ok (.bipush 16, 2) := by decide +kernel
theorem dX2_retired_27 : decode cX2_retired 27 = .ok (.irem, 1) := by decide +kernel
theorem dX2_retired_28 : decode cX2_retired 28 = .ok (.iaload, 1) := by decide +kernel
theorem dX2_retired_29 : decode cX2_retired 29 = .ok (.ireturn, 1) := by decide +kernel
theorem dX2_count_0 : decode cX2_count 0 = .ok (.iload_n 1, 1) := by decide +kernel
theorem dX2_count_1 : decode cX2_count 1 = .ok (.tableswitch 104 0 8 #[51, 56, 61, 66, 71, 76, 81, 86, 91], 51) := by decide +kernel
theorem dX2_count_52 : decode cX2_count 52 = .ok (.aload_n 0, 1) := by decide +kernel
theorem dX2_count_53 : decode cX2_count 53 = .ok (.getfield 92, 3) := by decide +kernel
theorem dX2_count_56 : decode cX2_count 56 = .ok (.ireturn, 1) := by decide +kernel
theorem dX2_count_57 : decode cX2_count 57 = .ok (.aload_n 0, 1) := by decide +kernel
theorem dX2_count_58 : decode cX2_count 58 = .ok (.getfield 74, 3) := by decide +kernel
theorem dX2_count_61 : decode cX2_count 61 = .ok (.ireturn, 1) := by decide +kernel
theorem dX2_count_62 : decode cX2_count 62 = .ok (.aload_n 0, 1) := by decide +kernel
theorem dX2_count_63 : decode cX2_count 63 = .ok (.getfield 95, 3) := by decide +kernel
theorem dX2_count_66 : decode cX2_count 66 = .ok (.ireturn, 1) := by decide +kernel
theorem dX2_count_67 : decode cX2_count 67 = .ok (.aload_n 0, 1) := by decide +kernel
theorem dX2_count_68 : decode cX2_count 68 = .ok (.getfield 98, 3) := by decide +kernel
theorem dX2_count_71 : decode cX2_count 71 = .ok (.ireturn, 1) := by decide +kernel
theorem dX2_count_72 : decode cX2_count 72 = .ok (.aload_n 0, 1) := by decide +kernel
theorem dX2_count_73 : decode cX2_count 73 = .ok (.getfield 101, 3) := by decide +kernel
theorem dX2_count_76 : decode cX2_count 76 = .ok (.ireturn, 1) := by decide +kernel
theorem dX2_count_77 : decode cX2_count 77 = .ok (.aload_n 0, 1) := by decide +kernel
theorem dX2_count_78 : decode cX2_count 78 = .ok (.getfield 63, 3) := by decide +kernel
theorem dX2_count_81 : decode cX2_count 81 = .ok (.ireturn, 1) := by decide +kernel
theorem dX2_count_82 : decode cX2_count 82 = .ok (.aload_n 0, 1) := by decide +kernel
theorem dX2_count_83 : decode cX2_count 83 = .ok (.getfield 104, 3) := by decide +kernel
theorem dX2_count_86 : decode cX2_count 86 = .ok (.ireturn, 1) := by decide +kernel
theorem dX2_count_87 : decode cX2_count 87 = .ok (.aload_n 0, 1) := by decide +kernel
theorem dX2_count_88 : decode cX2_count 88 = .ok (.getfield 107, 3) := by decide +kernel
theorem dX2_count_91 : decode cX2_count 91 = .ok (.ireturn, 1) := by decide +kernel
theorem dX2_count_92 : decode cX2_count 92 = .ok (.aload_n 0, 1) := by decide +kernel
theorem dX2_count_93 : decode cX2_count 93 = .ok (.getfield 67, 3) := by decide +kernel
theorem dX2_count_96 : decode cX2_count 96 = .ok (.ifCond .eq 7, 3) := by decide +kernel
theorem dX2_count_99 : decode cX2_count 99 = .ok (.iconst 1, 1) := by decide +kernel
theorem dX2_count_100 : decode cX2_count 100 = .ok (.goto 4, 3) := by decide +kernel
theorem dX2_count_103 : decode cX2_count 103 = .ok (.iconst 0, 1) := by decide +kernel
theorem dX2_count_104 : decode cX2_count 104 = .ok (.ireturn, 1) := by decide +kernel
theorem dX2_count_105 : decode cX2_count 105 = .ok (.new 110, 3) := by decide +kernel
theorem dX2_count_108 : decode cX2_count 108 = .ok (.dup, 1) := by decide +kernel
theorem dX2_count_109 : decode cX2_count 109 = .ok (.ldc 112, 2) := by decide +kernel
theorem dX2_count_111 : decode cX2_count 111 = .ok (.invokespecial 114, 3) := by decide +kernel
theorem dX2_count_114 : decode cX2_count 114 = .ok (.athrow, 1) := by decide +kernel
theorem dX2_pace_0 : decode cX2_pace 0 = .ok (.aload_n 0, 1) := by decide +kernel
theorem dX2_pace_1 : decode cX2_pace 1 = .ok (.getfield 74, 3) := by decide +kernel
theorem dX2_pace_4 : decode cX2_pace 4 = .ok (.ifCond .ne 7, 3) := by decide +kernel
theorem dX2_pace_7 : decode cX2_pace 7 = .ok (.fconst 0, 1) := by decide +kernel
theorem dX2_pace_8 : decode cX2_pace 8 = .ok (.goto 14, 3) := by decide +kernel
theorem dX2_pace_11 : decode cX2_pace 11 = .ok (.aload_n 0, 1) := by decide +kernel
theorem dX2_pace_12 : decode cX2_pace 12 = .ok (.getfield 92, 3) := by decide +kernel
theorem dX2_pace_15 : decode cX2_pace 15 = .ok (.i2f, 1) := by decide +kernel
theorem dX2_pace_16 : decode cX2_pace 16 = .ok (.aload_n 0, 1) := by decide +kernel
theorem dX2_pace_17 : decode cX2_pace 17 = .ok (.getfield 74, 3) := by decide +kernel
theorem dX2_pace_20 : decode cX2_pace 20 = .ok (.i2f, 1) := by decide +kernel
theorem dX2_pace_21 : decode cX2_pace 21 = .ok (.fdiv, 1) := by decide +kernel
theorem dX2_pace_22 : decode cX2_pace 22 = .ok (.freturn, 1) := by decide +kernel
theorem dX2_checkIndex_0 : decode cX2_checkIndex 0 = .ok (.iload_n 0, 1) := by decide +kernel
theorem dX2_checkIndex_1 : decode cX2_checkIndex 1 = .ok (.ifCond .lt 8, 3) := by decide +kernel
theorem dX2_checkIndex_4 : decode cX2_checkIndex 4 = .ok (.iload_n 0, 1) := by decide +kernel
theorem dX2_checkIndex_5 : decode cX2_checkIndex 5 = .ok (.iload_n 1, 1) := by decide +kernel
theorem dX2_checkIndex_6 : decode cX2_checkIndex 6 = .ok (.if_icmp .lt 13, 3) := by decide +kernel
theorem dX2_checkIndex_9 : decode cX2_checkIndex 9 = .ok (.new 52, 3) := by decide +kernel
theorem dX2_checkIndex_12 : decode cX2_checkIndex 12 = .ok (.dup, 1) := by decide +kernel
theorem dX2_checkIndex_13 : decode cX2_checkIndex 13 = .ok (.ldc 115, 2) := by decide +kernel
theorem dX2_checkIndex_15 : decode cX2_checkIndex 15 = .ok (.invokespecial 56, 3) := by decide +kernel
theorem dX2_checkIndex_18 : decode cX2_checkIndex 18 = .ok (.athrow, 1) := by decide +kernel
theorem dX2_checkIndex_19 : decode cX2_checkIndex 19 = .ok (.return_, 1) := by decide +kernel
theorem dX2_checkArgument_0 : decode cX2_checkArgument 0 = .ok (.iload_n 0, 1) := by decide +kernel
theorem dX2_checkArgument_1 : decode cX2_checkArgument 1 = .ok (.iload_n 1, 1) := by decide +kernel
theorem dX2_checkArgument_2 : decode cX2_checkArgument 2 = .ok (.if_icmp .lt 8, 3) := by decide +kernel
theorem dX2_checkArgument_5 : decode cX2_checkArgument 5 = .ok (.iload_n 0, 1) := by decide +kernel
theorem dX2_checkArgument_6 : decode cX2_checkArgument 6 = .ok (.iload_n 2, 1) := by decide +kernel
theorem dX2_checkArgument_7 : decode cX2_checkArgument 7 = .ok (.if_icmp .le 13, 3) := by decide +kernel
theorem dX2_checkArgument_10 : decode cX2_checkArgument 10 = .ok (.new 110, 3) := by decide +kernel
theorem dX2_checkArgument_13 : decode cX2_checkArgument 13 = .ok (.dup, 1) := by decide +kernel
theorem dX2_checkArgument_14 : decode cX2_checkArgument 14 = .ok (.ldc 117, 2) := by decide +kernel
theorem dX2_checkArgument_16 : decode cX2_checkArgument 16 = .ok (.invokespecial 114, 3) := by decide +kernel
theorem dX2_checkArgument_19 : decode cX2_checkArgument 19 = .ok (.athrow, 1) := by decide +kernel
theorem dX2_checkArgument_20 : decode cX2_checkArgument 20 = .ok (.return_, 1) := by decide +kernel
theorem dX2_runCycle_0 : decode cX2_runCycle 0 = .ok (.aload_n 0, 1) := by decide +kernel
theorem dX2_runCycle_1 : decode cX2_runCycle 1 = .ok (.dup, 1) := by decide +kernel
theorem dX2_runCycle_2 : decode cX2_runCycle 2 = .ok (.getfield 92, 3) := by decide +kernel
theorem dX2_runCycle_5 : decode cX2_runCycle 5 = .ok (.iconst 1, 1) := by decide +kernel
theorem dX2_runCycle_6 : decode cX2_runCycle 6 = .ok (.iadd, 1) := by decide +kernel
theorem dX2_runCycle_7 : decode cX2_runCycle 7 = .ok (.putfield 92, 3) := by decide +kernel
theorem dX2_runCycle_10 : decode cX2_runCycle 10 = .ok (.aload_n 0, 1) := by decide +kernel
theorem dX2_runCycle_11 : decode cX2_runCycle 11 = .ok (.aload_n 0, 1) := by decide +kernel
theorem dX2_runCycle_12 : decode cX2_runCycle 12 = .ok (.getfield 34, 3) := by decide +kernel
theorem dX2_runCycle_15 : decode cX2_runCycle 15 = .ok (.iconst 4, 1) := by decide +kernel
theorem dX2_runCycle_16 : decode cX2_runCycle 16 = .ok (.aaload, 1) := by decide +kernel
theorem dX2_runCycle_17 : decode cX2_runCycle 17 = .ok (.invokevirtual 119, 3) := by decide +kernel
theorem dX2_runCycle_20 : decode cX2_runCycle 20 = .ok (.ifCond .eq 4, 3) := by decide +kernel
theorem dX2_runCycle_23 : decode cX2_runCycle 23 = .ok (.return_, 1) := by decide +kernel
theorem dX2_runCycle_24 : decode cX2_runCycle 24 = .ok (.aload_n 0, 1) := by decide +kernel
theorem dX2_runCycle_25 : decode cX2_runCycle 25 = .ok (.aload_n 0, 1) := by decide +kernel
theorem dX2_runCycle_26 : decode cX2_runCycle 26 = .ok (.getfield 34, 3) := by decide +kernel
theorem dX2_runCycle_29 : decode cX2_runCycle 29 = .ok (.iconst 3, 1) := by decide +kernel
theorem dX2_runCycle_30 : decode cX2_runCycle 30 = .ok (.aaload, 1) := by decide +kernel
theorem dX2_runCycle_31 : decode cX2_runCycle 31 = .ok (.invokevirtual 123, 3) := by decide +kernel
theorem dX2_runCycle_34 : decode cX2_runCycle 34 = .ok (.aload_n 0, 1) := by decide +kernel
theorem dX2_runCycle_35 : decode cX2_runCycle 35 = .ok (.aload_n 0, 1) := by decide +kernel
theorem dX2_runCycle_36 : decode cX2_runCycle 36 = .ok (.getfield 34, 3) := by decide +kernel
theorem dX2_runCycle_39 : decode cX2_runCycle 39 = .ok (.iconst 2, 1) := by decide +kernel
theorem dX2_runCycle_40 : decode cX2_runCycle 40 = .ok (.aaload, 1) := by decide +kernel
theorem dX2_runCycle_41 : decode cX2_runCycle 41 = .ok (.invokevirtual 127, 3) := by decide +kernel
theorem dX2_runCycle_44 : decode cX2_runCycle 44 = .ok (.aload_n 0, 1) := by decide +kernel
theorem dX2_runCycle_45 : decode cX2_runCycle 45 = .ok (.iconst 1, 1) := by decide +kernel
theorem dX2_runCycle_46 : decode cX2_runCycle 46 = .ok (.invokevirtual 130, 3) := by decide +kernel
theorem dX2_runCycle_49 : decode cX2_runCycle 49 = .ok (.aload_n 0, 1) := by decide +kernel
theorem dX2_runCycle_50 : decode cX2_runCycle 50 = .ok (.iconst 0, 1) := by decide +kernel
theorem dX2_runCycle_51 : decode cX2_runCycle 51 = .ok (.invokevirtual 130, 3) := by decide +kernel
theorem dX2_runCycle_54 : decode cX2_runCycle 54 = .ok (.aload_n 0, 1) := by decide +kernel
theorem dX2_runCycle_55 : decode cX2_runCycle 55 = .ok (.aload_n 0, 1) := by decide +kernel
theorem dX2_runCycle_56 : decode cX2_runCycle 56 = .ok (.getfield 34, 3) := by decide +kernel
theorem dX2_runCycle_59 : decode cX2_runCycle 59 = .ok (.iconst 0, 1) := by decide +kernel
theorem dX2_runCycle_60 : decode cX2_runCycle 60 = .ok (.aaload, 1) := by decide +kernel
theorem dX2_runCycle_61 : decode cX2_runCycle 61 = .ok (.invokevirtual 133, 3) := by decide +kernel
theorem dX2_runCycle_64 : decode cX2_runCycle 64 = .ok (.return_, 1) := by decide +kernel
theorem dX2_leaveEndsCycle_0 : decode cX2_leaveEndsCycle 0 = .ok (.aload_n 1, 1) := by decide +kernel
theorem dX2_leaveEndsCycle_1 : decode cX2_leaveEndsCycle 1 = .ok (.getfield 80, 3) := by decide +kernel
theorem dX2_leaveEndsCycle_4 : decode cX2_leaveEndsCycle 4 = .ok (.ifCond .ne 5, 3) := by decide +kernel
theorem dX2_leaveEndsCycle_7 : decode cX2_leaveEndsCycle 7 = .ok (.iconst 0, 1) := by decide +kernel
theorem dX2_leaveEndsCycle_8 : decode cX2_leaveEndsCycle 8 = .ok (.ireturn, 1) := by decide +kernel
theorem dX2_leaveEndsCycle_9 : decode cX2_leaveEndsCycle 9 = .ok (.aload_n 1, 1) := by decide +kernel
theorem dX2_leaveEndsCycle_10 : decode cX2_leaveEndsCycle 10 = .ok (.getfield 136, 3) := by decide +kernel
theorem dX2_leaveEndsCycle_13 : decode cX2_leaveEndsCycle 13 = .ok (.ifCond .eq 10, 3) := by decide +kernel
theorem dX2_leaveEndsCycle_16 : decode cX2_leaveEndsCycle 16 = .ok (.aload_n 0, 1) := by decide +kernel
theorem dX2_leaveEndsCycle_17 : decode cX2_leaveEndsCycle 17 = .ok (.aload_n 1, 1) := by decide +kernel
theorem dX2_leaveEndsCycle_18 : decode cX2_leaveEndsCycle 18 = .ok (.invokevirtual 139, 3) := by decide +kernel
theorem dX2_leaveEndsCycle_21 : decode cX2_leaveEndsCycle 21 = .ok (.iconst 1, 1) := by decide +kernel
theorem dX2_leaveEndsCycle_22 : decode cX2_leaveEndsCycle 22 = .ok (.ireturn, 1) := by decide +kernel
theorem dX2_leaveEndsCycle_23 : decode cX2_leaveEndsCycle 23 = .ok (.aload_n 1, 1) := by decide +kernel
theorem dX2_leaveEndsCycle_24 : decode cX2_leaveEndsCycle 24 = .ok (.bipush 18, 2) := by decide +kernel
theorem dX2_leaveEndsCycle_26 : decode cX2_leaveEndsCycle 26 = .ok (.invokevirtual 142, 3) := by decide +kernel
theorem dX2_leaveEndsCycle_29 : decode cX2_leaveEndsCycle 29 = .ok (.ifCond .eq 15, 3) := by decide +kernel
theorem dX2_leaveEndsCycle_32 : decode cX2_leaveEndsCycle 32 = .ok (.aload_n 0, 1) := by decide +kernel
theorem dX2_leaveEndsCycle_33 : decode cX2_leaveEndsCycle 33 = .ok (.iconst 5, 1) := by decide +kernel
theorem dX2_leaveEndsCycle_34 : decode cX2_leaveEndsCycle 34 = .ok (.invokevirtual 59, 3) := by decide +kernel
theorem dX2_leaveEndsCycle_37 : decode cX2_leaveEndsCycle 37 = .ok (.aload_n 0, 1) := by decide +kernel
theorem dX2_leaveEndsCycle_38 : decode cX2_leaveEndsCycle 38 = .ok (.iconst 1, 1) := by decide +kernel
theorem dX2_leaveEndsCycle_39 : decode cX2_leaveEndsCycle 39 = .ok (.putfield 67, 3) := by decide +kernel
theorem dX2_leaveEndsCycle_42 : decode cX2_leaveEndsCycle 42 = .ok (.iconst 1, 1) := by decide +kernel
theorem dX2_leaveEndsCycle_43 : decode cX2_leaveEndsCycle 43 = .ok (.ireturn, 1) := by decide +kernel
theorem dX2_leaveEndsCycle_44 : decode cX2_leaveEndsCycle 44 = .ok (.aload_n 0, 1) := by decide +kernel
theorem dX2_leaveEndsCycle_45 : decode cX2_leaveEndsCycle 45 = .ok (.aload_n 1, 1) := by decide +kernel
theorem dX2_leaveEndsCycle_46 : decode cX2_leaveEndsCycle 46 = .ok (.invokevirtual 146, 3) := by decide +kernel
theorem dX2_leaveEndsCycle_49 : decode cX2_leaveEndsCycle 49 = .ok (.iconst 0, 1) := by decide +kernel
theorem dX2_leaveEndsCycle_50 : decode cX2_leaveEndsCycle 50 = .ok (.ireturn, 1) := by decide +kernel
theorem dX2_takeFault_0 : decode cX2_takeFault 0 = .ok (.aload_n 0, 1) := by decide +kernel
theorem dX2_takeFault_1 : decode cX2_takeFault 1 = .ok (.dup, 1) := by decide +kernel
theorem dX2_takeFault_2 : decode cX2_takeFault 2 = .ok (.getfield 101, 3) := by decide +kernel
theorem dX2_takeFault_5 : decode cX2_takeFault 5 = .ok (.iconst 1, 1) := by decide +kernel
theorem dX2_takeFault_6 : decode cX2_takeFault 6 = .ok (.iadd, 1) := by decide +kernel
theorem dX2_takeFault_7 : decode cX2_takeFault 7 = .ok (.putfield 101, 3) := by decide +kernel
theorem dX2_takeFault_10 : decode cX2_takeFault 10 = .ok (.aload_n 0, 1) := by decide +kernel
theorem dX2_takeFault_11 : decode cX2_takeFault 11 = .ok (.aload_n 1, 1) := by decide +kernel
theorem dX2_takeFault_12 : decode cX2_takeFault 12 = .ok (.getfield 136, 3) := by decide +kernel
theorem dX2_takeFault_15 : decode cX2_takeFault 15 = .ok (.putfield 104, 3) := by decide +kernel
theorem dX2_takeFault_18 : decode cX2_takeFault 18 = .ok (.aload_n 0, 1) := by decide +kernel
theorem dX2_takeFault_19 : decode cX2_takeFault 19 = .ok (.aload_n 1, 1) := by decide +kernel
theorem dX2_takeFault_20 : decode cX2_takeFault 20 = .ok (.getfield 83, 3) := by decide +kernel
theorem dX2_takeFault_23 : decode cX2_takeFault 23 = .ok (.putfield 107, 3) := by decide +kernel
theorem dX2_takeFault_26 : decode cX2_takeFault 26 = .ok (.aload_n 0, 1) := by decide +kernel
theorem dX2_takeFault_27 : decode cX2_takeFault 27 = .ok (.iconst 5, 1) := by decide +kernel
theorem dX2_takeFault_28 : decode cX2_takeFault 28 = .ok (.invokevirtual 59, 3) := by decide +kernel
theorem dX2_takeFault_31 : decode cX2_takeFault 31 = .ok (.aload_n 0, 1) := by decide +kernel
theorem dX2_takeFault_32 : decode cX2_takeFault 32 = .ok (.aload_n 0, 1) := by decide +kernel
theorem dX2_takeFault_33 : decode cX2_takeFault 33 = .ok (.getfield 71, 3) := by decide +kernel
theorem dX2_takeFault_36 : decode cX2_takeFault 36 = .ok (.putfield 63, 3) := by decide +kernel
theorem dX2_takeFault_39 : decode cX2_takeFault 39 = .ok (.return_, 1) := by decide +kernel
theorem dX2_retire_0 : decode cX2_retire 0 = .ok (.aload_n 1, 1) := by decide +kernel
theorem dX2_retire_1 : decode cX2_retire 1 = .ok (.getfield 149, 3) := by decide +kernel
theorem dX2_retire_4 : decode cX2_retire 4 = .ok (.getfield 152, 3) := by decide +kernel
theorem dX2_retire_7 : decode cX2_retire 7 = .ok (.istore_n 2, 1) := by decide +kernel
theorem dX2_retire_8 : decode cX2_retire 8 = .ok (.aload_n 1, 1) := by decide +kernel
theorem dX2_retire_9 : decode cX2_retire 9 = .ok (.iload_n 2, 1) := by decide +kernel
theorem dX2_retire_10 : decode cX2_retire 10 = .ok (.invokevirtual 155, 3) := by decide +kernel
theorem dX2_retire_13 : decode cX2_retire 13 = .ok (.ifCond .eq 13, 3) := by decide +kernel
theorem dX2_retire_16 : decode cX2_retire 16 = .ok (.aload_n 0, 1) := by decide +kernel
theorem dX2_retire_17 : decode cX2_retire 17 = .ok (.getfield 26, 3) := by decide +kernel
theorem dX2_retire_20 : decode cX2_retire 20 = .ok (.iload_n 2, 1) := by decide +kernel
theorem dX2_retire_21 : decode cX2_retire 21 = .ok (.aload_n 1, 1) := by decide +kernel
theorem dX2_retire_22 : decode cX2_retire 22 = .ok (.getfield 158, 3) := by decide +kernel
theorem dX2_retire_25 : decode cX2_retire 25 = .ok (.iastore, 1) := by decide +kernel
theorem dX2_retire_26 : decode cX2_retire 26 = .ok (.aload_n 0, 1) := by decide +kernel
theorem dX2_retire_27 : decode cX2_retire 27 = .ok (.getfield 41, 3) := by decide +kernel
theorem dX2_retire_30 : decode cX2_retire 30 = .ok (.aload_n 0, 1) := by decide +kernel
theorem dX2_retire_31 : decode cX2_retire 31 = .ok (.getfield 74, 3) := by decide +kernel
theorem dX2_retire_34 : decode cX2_retire 34 = .ok (.bipush 16, 2) := by decide +kernel
theorem dX2_retire_36 : decode cX2_retire 36 = .ok (.irem, 1) := by decide +kernel
theorem dX2_retire_37 : decode cX2_retire 37 = .ok (.aload_n 1, 1) := by decide +kernel
theorem dX2_retire_38 : decode cX2_retire 38 = .ok (.getfield 83, 3) := by decide +kernel
theorem dX2_retire_41 : decode cX2_retire 41 = .ok (.iastore, 1) := by decide +kernel
theorem dX2_retire_42 : decode cX2_retire 42 = .ok (.aload_n 0, 1) := by decide +kernel
theorem dX2_retire_43 : decode cX2_retire 43 = .ok (.dup, 1) := by decide +kernel
theorem dX2_retire_44 : decode cX2_retire 44 = .ok (.getfield 74, 3) := by decide +kernel
theorem dX2_retire_47 : decode cX2_retire 47 = .ok (.iconst 1, 1) := by decide +kernel
theorem dX2_retire_48 : decode cX2_retire 48 = .ok (.iadd, 1) := by decide +kernel
theorem dX2_retire_49 : decode cX2_retire 49 = .ok (.putfield 74, 3) := by decide +kernel
theorem dX2_retire_52 : decode cX2_retire 52 = .ok (.aload_n 1, 1) := by decide +kernel
theorem dX2_retire_53 : decode cX2_retire 53 = .ok (.iconst 0, 1) := by decide +kernel
theorem dX2_retire_54 : decode cX2_retire 54 = .ok (.putfield 80, 3) := by decide +kernel
theorem dX2_retire_57 : decode cX2_retire 57 = .ok (.return_, 1) := by decide +kernel
theorem dX2_passMemory_0 : decode cX2_passMemory 0 = .ok (.aload_n 1, 1) := by decide +kernel
theorem dX2_passMemory_1 : decode cX2_passMemory 1 = .ok (.bipush 11, 2) := by decide +kernel
theorem dX2_passMemory_3 : decode cX2_passMemory 3 = .ok (.invokevirtual 142, 3) := by decide +kernel
theorem dX2_passMemory_6 : decode cX2_passMemory 6 = .ok (.ifCond .eq 19, 3) := by decide +kernel
theorem dX2_passMemory_9 : decode cX2_passMemory 9 = .ok (.aload_n 1, 1) := by decide +kernel
theorem dX2_passMemory_10 : decode cX2_passMemory 10 = .ok (.aload_n 0, 1) := by decide +kernel
theorem dX2_passMemory_11 : decode cX2_passMemory 11 = .ok (.getfield 22, 3) := by decide +kernel
theorem dX2_passMemory_14 : decode cX2_passMemory 14 = .ok (.aload_n 1, 1) := by decide +kernel
theorem dX2_passMemory_15 : decode cX2_passMemory 15 = .ok (.getfield 161, 3) := by decide +kernel
theorem dX2_passMemory_18 : decode cX2_passMemory 18 = .ok (.iaload, 1) := by decide +kernel
theorem dX2_passMemory_19 : decode cX2_passMemory 19 = .ok (.putfield 158, 3) := by decide +kernel
theorem dX2_passMemory_22 : decode cX2_passMemory 22 = .ok (.goto 25, 3) := by decide +kernel
theorem dX2_passMemory_25 : decode cX2_passMemory 25 = .ok (.aload_n 1, 1) := by decide +kernel
theorem dX2_passMemory_26 : decode cX2_passMemory 26 = .ok (.bipush 12, 2) := by decide +kernel
theorem dX2_passMemory_28 : decode cX2_passMemory 28 = .ok (.invokevirtual 142, 3) := by decide +kernel
theorem dX2_passMemory_31 : decode cX2_passMemory 31 = .ok (.ifCond .eq 16, 3) := by decide +kernel
theorem dX2_passMemory_34 : decode cX2_passMemory 34 = .ok (.aload_n 0, 1) := by decide +kernel
theorem dX2_passMemory_35 : decode cX2_passMemory 35 = .ok (.getfield 22, 3) := by decide +kernel
theorem dX2_passMemory_38 : decode cX2_passMemory 38 = .ok (.aload_n 1, 1) := by decide +kernel
theorem dX2_passMemory_39 : decode cX2_passMemory 39 = .ok (.getfield 161, 3) := by decide +kernel
theorem dX2_passMemory_42 : decode cX2_passMemory 42 = .ok (.aload_n 1, 1) := by decide +kernel
theorem dX2_passMemory_43 : decode cX2_passMemory 43 = .ok (.getfield 158, 3) := by decide +kernel
theorem dX2_passMemory_46 : decode cX2_passMemory 46 = .ok (.iastore, 1) := by decide +kernel
theorem dX2_passMemory_47 : decode cX2_passMemory 47 = .ok (.aload_n 0, 1) := by decide +kernel
theorem dX2_passMemory_48 : decode cX2_passMemory 48 = .ok (.iconst 3, 1) := by decide +kernel
theorem dX2_passMemory_49 : decode cX2_passMemory 49 = .ok (.invokevirtual 130, 3) := by decide +kernel
theorem dX2_passMemory_52 : decode cX2_passMemory 52 = .ok (.return_, 1) := by decide +kernel
theorem dX2_workInReached_0 : decode cX2_workInReached 0 = .ok (.aload_n 1, 1) := by decide +kernel
theorem dX2_workInReached_1 : decode cX2_workInReached 1 = .ok (.getfield 80, 3) := by decide +kernel
theorem dX2_workInReached_4 : decode cX2_workInReached 4 = .ok (.ifCond .ne 4, 3) := by decide +kernel
theorem dX2_workInReached_7 : decode cX2_workInReached 7 = .ok (.return_, 1) := by decide +kernel
theorem dX2_workInReached_8 : decode cX2_workInReached 8 = .ok (.aload_n 0, 1) := by decide +kernel
theorem dX2_workInReached_9 : decode cX2_workInReached 9 = .ok (.aload_n 1, 1) := by decide +kernel
theorem dX2_workInReached_10 : decode cX2_workInReached 10 = .ok (.getfield 149, 3) := by decide +kernel
theorem dX2_workInReached_13 : decode cX2_workInReached 13 = .ok (.invokevirtual 164, 3) := by decide +kernel
theorem dX2_workInReached_16 : decode cX2_workInReached 16 = .ok (.ifCond .eq 14, 3) := by decide +kernel
theorem dX2_workInReached_19 : decode cX2_workInReached 19 = .ok (.aload_n 0, 1) := by decide +kernel
theorem dX2_workInReached_20 : decode cX2_workInReached 20 = .ok (.dup, 1) := by decide +kernel
theorem dX2_workInReached_21 : decode cX2_workInReached 21 = .ok (.getfield 95, 3) := by decide +kernel
theorem dX2_workInReached_24 : decode cX2_workInReached 24 = .ok (.iconst 1, 1) := by decide +kernel
theorem dX2_workInReached_25 : decode cX2_workInReached 25 = .ok (.iadd, 1) := by decide +kernel
theorem dX2_workInReached_26 : decode cX2_workInReached 26 = .ok (.putfield 95, 3) := by decide +kernel
theorem dX2_workInReached_29 : decode cX2_workInReached 29 = .ok (.return_, 1) := by decide +kernel
theorem dX2_workInReached_30 : decode cX2_workInReached 30 = .ok (.aload_n 1, 1) := by decide +kernel
theorem dX2_workInReached_31 : decode cX2_workInReached 31 = .ok (.dup, 1) := by decide +kernel
theorem dX2_workInReached_32 : decode cX2_workInReached 32 = .ok (.getfield 168, 3) := by decide +kernel
theorem dX2_workInReached_35 : decode cX2_workInReached 35 = .ok (.iconst 1, 1) := by decide +kernel
theorem dX2_workInReached_36 : decode cX2_workInReached 36 = .ok (.iadd, 1) := by decide +kernel
theorem dX2_workInReached_37 : decode cX2_workInReached 37 = .ok (.putfield 168, 3) := by decide +kernel
theorem dX2_workInReached_40 : decode cX2_workInReached 40 = .ok (.aload_n 1, 1) := by decide +kernel
theorem dX2_workInReached_41 : decode cX2_workInReached 41 = .ok (.getfield 168, 3) := by decide +kernel
theorem dX2_workInReached_44 : decode cX2_workInReached 44 = .ok (.aload_n 1, 1) := by decide +kernel
theorem dX2_workInReached_45 : decode cX2_workInReached 45 = .ok (.getfield 149, 3) := by decide +kernel
theorem dX2_workInReached_48 : decode cX2_workInReached 48 = .ok (.invokevirtual 171, 3) := by decide +kernel
theorem dX2_workInReached_51 : decode cX2_workInReached 51 = .ok (.if_icmp .ge 14, 3) := by decide +kernel
theorem dX2_workInReached_54 : decode cX2_workInReached 54 = .ok (.aload_n 0, 1) := by decide +kernel
theorem dX2_workInReached_55 : decode cX2_workInReached 55 = .ok (.dup, 1) := by decide +kernel
theorem dX2_workInReached_56 : decode cX2_workInReached 56 = .ok (.getfield 95, 3) := by decide +kernel
theorem dX2_workInReached_59 : decode cX2_workInReached 59 = .ok (.iconst 1, 1) := by decide +kernel
theorem dX2_workInReached_60 : decode cX2_workInReached 60 = .ok (.iadd, 1) := by decide +kernel
theorem dX2_workInReached_61 : decode cX2_workInReached 61 = .ok (.putfield 95, 3) := by decide +kernel
theorem dX2_workInReached_64 : decode cX2_workInReached 64 = .ok (.return_, 1) := by decide +kernel
theorem dX2_workInReached_65 : decode cX2_workInReached 65 = .ok (.aload_n 0, 1) := by decide +kernel
theorem dX2_workInReached_66 : decode cX2_workInReached 66 = .ok (.aload_n 1, 1) := by decide +kernel
theorem dX2_workInReached_67 : decode cX2_workInReached 67 = .ok (.invokevirtual 175, 3) := by decide +kernel
theorem dX2_workInReached_70 : decode cX2_workInReached 70 = .ok (.aload_n 0, 1) := by decide +kernel
theorem dX2_workInReached_71 : decode cX2_workInReached 71 = .ok (.iconst 2, 1) := by decide +kernel
theorem dX2_workInReached_72 : decode cX2_workInReached 72 = .ok (.invokevirtual 130, 3) := by decide +kernel
theorem dX2_workInReached_75 : decode cX2_workInReached 75 = .ok (.return_, 1) := by decide +kernel
theorem dX2_needsLoadAhead_0 : decode cX2_needsLoadAhead 0 = .ok (.aload_n 0, 1) := by decide +kernel
theorem dX2_needsLoadAhead_1 : decode cX2_needsLoadAhead 1 = .ok (.getfield 34, 3) := by decide +kernel
theorem dX2_needsLoadAhead_4 : decode cX2_needsLoadAhead 4 = .ok (.iconst 4, 1) := by decide +kernel
theorem dX2_needsLoadAhead_5 : decode cX2_needsLoadAhead 5 = .ok (.aaload, 1) := by decide +kernel
theorem dX2_needsLoadAhead_6 : decode cX2_needsLoadAhead 6 = .ok (.astore_n 2, 1) := by decide +kernel
theorem dX2_needsLoadAhead_7 : decode cX2_needsLoadAhead 7 = .ok (.aload_n 2, 1) := by decide +kernel
theorem dX2_needsLoadAhead_8 : decode cX2_needsLoadAhead 8 = .ok (.bipush 11, 2) := by decide +kernel
theorem dX2_needsLoadAhead_10 : decode cX2_needsLoadAhead 10 = .ok (.invokevirtual 142, 3) := by decide +kernel
theorem dX2_needsLoadAhead_13 : decode cX2_needsLoadAhead 13 = .ok (.ifCond .ne 5, 3) := by decide +kernel
theorem dX2_needsLoadAhead_16 : decode cX2_needsLoadAhead 16 = .ok (.iconst 0, 1) := by decide +kernel
theorem dX2_needsLoadAhead_17 : decode cX2_needsLoadAhead 17 = .ok (.ireturn, 1) := by decide +kernel
theorem dX2_needsLoadAhead_18 : decode cX2_needsLoadAhead 18 = .ok (.aload_n 1, 1) := by decide +kernel
theorem dX2_needsLoadAhead_19 : decode cX2_needsLoadAhead 19 = .ok (.invokevirtual 178, 3) := by decide +kernel
theorem dX2_needsLoadAhead_22 : decode cX2_needsLoadAhead 22 = .ok (.ifCond .eq 14, 3) := by decide +kernel
theorem dX2_needsLoadAhead_25 : decode cX2_needsLoadAhead 25 = .ok (.aload_n 2, 1) := by decide +kernel
theorem dX2_needsLoadAhead_26 : decode cX2_needsLoadAhead 26 = .ok (.aload_n 1, 1) := by decide +kernel
theorem dX2_needsLoadAhead_27 : decode cX2_needsLoadAhead 27 = .ok (.getfield 182, 3) := by decide +kernel
theorem dX2_needsLoadAhead_30 : decode cX2_needsLoadAhead 30 = .ok (.invokevirtual 155, 3) := by decide +kernel
theorem dX2_needsLoadAhead_33 : decode cX2_needsLoadAhead 33 = .ok (.ifCond .ne 21, 3) := by decide +kernel
theorem dX2_needsLoadAhead_36 : decode cX2_needsLoadAhead 36 = .ok (.aload_n 1, 1) := by decide +kernel
theorem dX2_needsLoadAhead_37 : decode cX2_needsLoadAhead 37 = .ok (.invokevirtual 185, 3) := by decide +kernel
theorem dX2_needsLoadAhead_40 : decode cX2_needsLoadAhead 40 = .ok (.ifCond .eq 18, 3) := by decide +kernel
theorem dX2_needsLoadAhead_43 : decode cX2_needsLoadAhead 43 = .ok (.aload_n 2, 1) := by decide +kernel
theorem dX2_needsLoadAhead_44 : decode cX2_needsLoadAhead 44 = .ok (.aload_n 1, 1) := by decide +kernel
theorem dX2_needsLoadAhead_45 : decode cX2_needsLoadAhead 45 = .ok (.getfield 188, 3) := by decide +kernel
theorem dX2_needsLoadAhead_48 : decode cX2_needsLoadAhead 48 = .ok (.invokevirtual 155, 3) := by decide +kernel
theorem dX2_needsLoadAhead_51 : decode cX2_needsLoadAhead 51 = .ok (.ifCond .eq 7, 3) := by decide +kernel
theorem dX2_needsLoadAhead_54 : decode cX2_needsLoadAhead 54 = .ok (.iconst 1, 1) := by decide +kernel
theorem dX2_needsLoadAhead_55 : decode cX2_needsLoadAhead 55 = .ok (.goto 4, 3) := by decide +kernel
theorem dX2_needsLoadAhead_58 : decode cX2_needsLoadAhead 58 = .ok (.iconst 0, 1) := by decide +kernel
theorem dX2_needsLoadAhead_59 : decode cX2_needsLoadAhead 59 = .ok (.ireturn, 1) := by decide +kernel
theorem dX2_finishWork_0 : decode cX2_finishWork 0 = .ok (.aload_n 0, 1) := by decide +kernel
theorem dX2_finishWork_1 : decode cX2_finishWork 1 = .ok (.aload_n 1, 1) := by decide +kernel
theorem dX2_finishWork_2 : decode cX2_finishWork 2 = .ok (.getfield 149, 3) := by decide +kernel
theorem dX2_finishWork_5 : decode cX2_finishWork 5 = .ok (.getfield 182, 3) := by decide +kernel
theorem dX2_finishWork_8 : decode cX2_finishWork 8 = .ok (.invokevirtual 191, 3) := by decide +kernel
theorem dX2_finishWork_11 : decode cX2_finishWork 11 = .ok (.istore_n 2, 1) := by decide +kernel
theorem dX2_finishWork_12 : decode cX2_finishWork 12 = .ok (.aload_n 0, 1) := by decide +kernel
theorem dX2_finishWork_13 : decode cX2_finishWork 13 = .ok (.aload_n 1, 1) := by decide +kernel
theorem dX2_finishWork_14 : decode cX2_finishWork 14 = .ok (.getfield 149, 3) := by decide +kernel
theorem dX2_finishWork_17 : decode cX2_finishWork 17 = .ok (.getfield 188, 3) := by decide +kernel
theorem dX2_finishWork_20 : decode cX2_finishWork 20 = .ok (.invokevirtual 191, 3) := by decide +kernel
theorem dX2_finishWork_23 : decode cX2_finishWork 23 = .ok (.istore_n 3, 1) := by decide +kernel
theorem dX2_finishWork_24 : decode cX2_finishWork 24 = .ok (.aload_n 1, 1) := by decide +kernel
theorem dX2_finishWork_25 : decode cX2_finishWork 25 = .ok (.getfield 136, 3) := by decide +kernel
theorem dX2_finishWork_28 : decode cX2_finishWork 28 = .ok (.ifCond .ne 16, 3) := by decide +kernel
theorem dX2_finishWork_31 : decode cX2_finishWork 31 = .ok (.aload_n 1, 1) := by decide +kernel
theorem dX2_finishWork_32 : decode cX2_finishWork 32 = .ok (.aload_n 1, 1) := by decide +kernel
theorem dX2_finishWork_33 : decode cX2_finishWork 33 = .ok (.getfield 149, 3) := by decide +kernel
theorem dX2_finishWork_36 : decode cX2_finishWork 36 = .ok (.iload_n 2, 1) := by decide +kernel
theorem dX2_finishWork_37 : decode cX2_finishWork 37 = .ok (.iload_n 3, 1) := by decide +kernel
theorem dX2_finishWork_38 : decode cX2_finishWork 38 = .ok (.invokestatic 195, 3) := by decide +kernel
theorem dX2_finishWork_41 : decode cX2_finishWork 41 = .ok (.putfield 136, 3) := by decide +kernel
theorem dX2_finishWork_44 : decode cX2_finishWork 44 = .ok (.aload_n 1, 1) := by decide +kernel
theorem dX2_finishWork_45 : decode cX2_finishWork 45 = .ok (.getfield 136, 3) := by decide +kernel
theorem dX2_finishWork_48 : decode cX2_finishWork 48 = .ok (.ifCond .eq 4, 3) := by decide +kernel
theorem dX2_finishWork_51 : decode cX2_finishWork 51 = .ok (.return_, 1) := by decide +kernel
theorem dX2_finishWork_52 : decode cX2_finishWork 52 = .ok (.aload_n 1, 1) := by decide +kernel
theorem dX2_finishWork_53 : decode cX2_finishWork 53 = .ok (.aload_n 1, 1) := by decide +kernel
theorem dX2_finishWork_54 : decode cX2_finishWork 54 = .ok (.iload_n 2, 1) := by decide +kernel
theorem dX2_finishWork_55 : decode cX2_finishWork 55 = .ok (.iload_n 3, 1) := by decide +kernel
theorem dX2_finishWork_56 : decode cX2_finishWork 56 = .ok (.invokestatic 199, 3) := by decide +kernel
theorem dX2_finishWork_59 : decode cX2_finishWork 59 = .ok (.putfield 158, 3) := by decide +kernel
theorem dX2_finishWork_62 : decode cX2_finishWork 62 = .ok (.aload_n 1, 1) := by decide +kernel
theorem dX2_finishWork_63 : decode cX2_finishWork 63 = .ok (.aload_n 1, 1) := by decide +kernel
theorem dX2_finishWork_64 : decode cX2_finishWork 64 = .ok (.getfield 149, 3) := by decide +kernel
theorem dX2_finishWork_67 : decode cX2_finishWork 67 = .ok (.invokevirtual 203, 3) := by decide +kernel
theorem dX2_finishWork_70 : decode cX2_finishWork 70 = .ok (.ifCond .eq 15, 3) := by decide +kernel
theorem dX2_finishWork_73 : decode cX2_finishWork 73 = .ok (.iload_n 2, 1) := by decide +kernel
theorem dX2_finishWork_74 : decode cX2_finishWork 74 = .ok (.aload_n 1, 1) := by decide +kernel
theorem dX2_finishWork_75 : decode cX2_finishWork 75 = .ok (.getfield 149, 3) := by decide +kernel
theorem dX2_finishWork_78 : decode cX2_finishWork 78 = .ok (.getfield 206, 3) := by decide +kernel
theorem dX2_finishWork_81 : decode cX2_finishWork 81 = .ok (.iadd, 1) := by decide +kernel
theorem dX2_finishWork_82 : decode cX2_finishWork 82 = .ok (.goto 4, 3) := by decide +kernel
theorem dX2_finishWork_85 : decode cX2_finishWork 85 = .ok (.iconst 0, 1) := by decide +kernel
theorem dX2_finishWork_86 : decode cX2_finishWork 86 = .ok (.putfield 161, 3) := by decide +kernel
theorem dX2_finishWork_89 : decode cX2_finishWork 89 = .ok (.aload_n 1, 1) := by decide +kernel
theorem dX2_finishWork_90 : decode cX2_finishWork 90 = .ok (.getfield 149, 3) := by decide +kernel
theorem dX2_finishWork_93 : decode cX2_finishWork 93 = .ok (.getfield 209, 3) := by decide +kernel
theorem dX2_finishWork_96 : decode cX2_finishWork 96 = .ok (.iload_n 2, 1) := by decide +kernel
theorem dX2_finishWork_97 : decode cX2_finishWork 97 = .ok (.iload_n 3, 1) := by decide +kernel
theorem dX2_finishWork_98 : decode cX2_finishWork 98 = .ok (.invokestatic 212, 3) := by decide +kernel
theorem dX2_finishWork_101 : decode cX2_finishWork 101 = .ok (.istore 4, 2) := by decide +kernel
theorem dX2_finishWork_103 : decode cX2_finishWork 103 = .ok (.aload_n 1, 1) := by decide +kernel
theorem dX2_finishWork_104 : decode cX2_finishWork 104 = .ok (.getfield 149, 3) := by decide +kernel
theorem dX2_finishWork_107 : decode cX2_finishWork 107 = .ok (.invokevirtual 216, 3) := by decide +kernel
theorem dX2_finishWork_110 : decode cX2_finishWork 110 = .ok (.ifCond .eq 13, 3) := by decide +kernel
theorem dX2_finishWork_113 : decode cX2_finishWork 113 = .ok (.aload_n 0, 1) := by decide +kernel
theorem dX2_finishWork_114 : decode cX2_finishWork 114 = .ok (.aload_n 1, 1) := by decide +kernel
theorem dX2_finishWork_115 : decode cX2_finishWork 115 = .ok (.getfield 83, 3) := by decide +kernel
theorem dX2_finishWork_118 : decode cX2_finishWork 118 = .ok (.iload 4, 2) := by decide +kernel
theorem dX2_finishWork_120 : decode cX2_finishWork 120 = .ok (.invokevirtual 219, 3) := by decide +kernel
theorem dX2_finishWork_123 : decode cX2_finishWork 123 = .ok (.aload_n 0, 1) := by decide +kernel
theorem dX2_finishWork_124 : decode cX2_finishWork 124 = .ok (.aload_n 1, 1) := by decide +kernel
theorem dX2_finishWork_125 : decode cX2_finishWork 125 = .ok (.iload 4, 2) := by decide +kernel
theorem dX2_finishWork_127 : decode cX2_finishWork 127 = .ok (.ifCond .eq 11, 3) := by decide +kernel
theorem dX2_finishWork_130 : decode cX2_finishWork 130 = .ok (.aload_n 1, 1) := by decide +kernel
theorem dX2_finishWork_131 : decode cX2_finishWork 131 = .ok (.iload_n 2, 1) := by decide +kernel
theorem dX2_finishWork_132 : decode cX2_finishWork 132 = .ok (.invokestatic 223, 3) := by decide +kernel
theorem dX2_finishWork_135 : decode cX2_finishWork 135 = .ok (.goto 9, 3) := by decide +kernel
theorem dX2_finishWork_138 : decode cX2_finishWork 138 = .ok (.aload_n 1, 1) := by decide +kernel
theorem dX2_finishWork_139 : decode cX2_finishWork 139 = .ok (.getfield 83, 3) := by decide +kernel
theorem dX2_finishWork_142 : decode cX2_finishWork 142 = .ok (.iconst 1, 1) := by decide +kernel
theorem dX2_finishWork_143 : decode cX2_finishWork 143 = .ok (.iadd, 1) := by decide +kernel
theorem dX2_finishWork_144 : decode cX2_finishWork 144 = .ok (.invokevirtual 227, 3) := by decide +kernel
theorem dX2_finishWork_147 : decode cX2_finishWork 147 = .ok (.return_, 1) := by decide +kernel
theorem dX2_handedOn_0 : decode cX2_handedOn 0 = .ok (.aload_n 0, 1) := by decide +kernel
theorem dX2_handedOn_1 : decode cX2_handedOn 1 = .ok (.getfield 34, 3) := by decide +kernel
theorem dX2_handedOn_4 : decode cX2_handedOn 4 = .ok (.iconst 4, 1) := by decide +kernel
theorem dX2_handedOn_5 : decode cX2_handedOn 5 = .ok (.aaload, 1) := by decide +kernel
theorem dX2_handedOn_6 : decode cX2_handedOn 6 = .ok (.astore_n 2, 1) := by decide +kernel
theorem dX2_handedOn_7 : decode cX2_handedOn 7 = .ok (.aload_n 2, 1) := by decide +kernel
theorem dX2_handedOn_8 : decode cX2_handedOn 8 = .ok (.iload_n 1, 1) := by decide +kernel
theorem dX2_handedOn_9 : decode cX2_handedOn 9 = .ok (.invokevirtual 155, 3) := by decide +kernel
theorem dX2_handedOn_12 : decode cX2_handedOn 12 = .ok (.ifCond .eq 10, 3) := by decide +kernel
theorem dX2_handedOn_15 : decode cX2_handedOn 15 = .ok (.aload_n 2, 1) := by decide +kernel
theorem dX2_handedOn_16 : decode cX2_handedOn 16 = .ok (.getfield 158, 3) := by decide +kernel
theorem dX2_handedOn_19 : decode cX2_handedOn 19 = .ok (.goto 9, 3) := by decide +kernel
theorem dX2_handedOn_22 : decode cX2_handedOn 22 = .ok (.aload_n 0, 1) := by decide +kernel
theorem dX2_handedOn_23 : decode cX2_handedOn 23 = .ok (.getfield 26, 3) := by decide +kernel
theorem dX2_handedOn_26 : decode cX2_handedOn 26 = .ok (.iload_n 1, 1) := by decide +kernel
theorem dX2_handedOn_27 : decode cX2_handedOn 27 = .ok (.iaload, 1) := by decide +kernel
theorem dX2_handedOn_28 : decode cX2_handedOn 28 = .ok (.ireturn, 1) := by decide +kernel
theorem dX2_faultOf_0 : decode cX2_faultOf 0 = .ok (.aload_n 0, 1) := by decide +kernel
theorem dX2_faultOf_1 : decode cX2_faultOf 1 = .ok (.getfield 209, 3) := by decide +kernel
theorem dX2_faultOf_4 : decode cX2_faultOf 4 = .ok (.bipush 17, 2) := by decide +kernel
theorem dX2_faultOf_6 : decode cX2_faultOf 6 = .ok (.if_icmp .ne 5, 3) := by decide +kernel
theorem dX2_faultOf_9 : decode cX2_faultOf 9 = .ok (.iconst 2, 1) := by decide +kernel
theorem dX2_faultOf_10 : decode cX2_faultOf 10 = .ok (.ireturn, 1) := by decide +kernel
theorem dX2_faultOf_11 : decode cX2_faultOf 11 = .ok (.aload_n 0, 1) := by decide +kernel
theorem dX2_faultOf_12 : decode cX2_faultOf 12 = .ok (.invokevirtual 203, 3) := by decide +kernel
theorem dX2_faultOf_15 : decode cX2_faultOf 15 = .ok (.ifCond .eq 17, 3) := by decide +kernel
theorem dX2_faultOf_18 : decode cX2_faultOf 18 = .ok (.iload_n 1, 1) := by decide +kernel
theorem dX2_faultOf_19 : decode cX2_faultOf 19 = .ok (.aload_n 0, 1) := by decide +kernel
theorem dX2_faultOf_20 : decode cX2_faultOf 20 = .ok (.getfield 206, 3) := by decide +kernel
theorem dX2_faultOf_23 : decode cX2_faultOf 23 = .ok (.iadd, 1) := by decide +kernel
theorem dX2_faultOf_24 : decode cX2_faultOf 24 = .ok (.invokestatic 231, 3) := by decide +kernel
theorem dX2_faultOf_27 : decode cX2_faultOf 27 = .ok (.ifCond .ne 5, 3) := by decide +kernel
theorem dX2_faultOf_30 : decode cX2_faultOf 30 = .ok (.iconst 3, 1) := by decide +kernel
theorem dX2_faultOf_31 : decode cX2_faultOf 31 = .ok (.ireturn, 1) := by decide +kernel
theorem dX2_faultOf_32 : decode cX2_faultOf 32 = .ok (.aload_n 0, 1) := by decide +kernel
theorem dX2_faultOf_33 : decode cX2_faultOf 33 = .ok (.getfield 209, 3) := by decide +kernel
theorem dX2_faultOf_36 : decode cX2_faultOf 36 = .ok (.bipush 8, 2) := by decide +kernel
theorem dX2_faultOf_38 : decode cX2_faultOf 38 = .ok (.if_icmp .ne 11, 3) := by decide +kernel
theorem dX2_faultOf_41 : decode cX2_faultOf 41 = .ok (.iload_n 2, 1) := by decide +kernel
theorem dX2_faultOf_42 : decode cX2_faultOf 42 = .ok (.ifCond .ne 7, 3) := by decide +kernel
theorem dX2_faultOf_45 : decode cX2_faultOf 45 = .ok (.iconst 4, 1) := by decide +kernel
theorem dX2_faultOf_46 : decode cX2_faultOf 46 = .ok (.goto 4, 3) := by decide +kernel
theorem dX2_faultOf_49 : decode cX2_faultOf 49 = .ok (.iconst 0, 1) := by decide +kernel
theorem dX2_faultOf_50 : decode cX2_faultOf 50 = .ok (.ireturn, 1) := by decide +kernel
theorem dX2_isWord_0 : decode cX2_isWord 0 = .ok (.iload_n 0, 1) := by decide +kernel
theorem dX2_isWord_1 : decode cX2_isWord 1 = .ok (.ifCond .lt 13, 3) := by decide +kernel
theorem dX2_isWord_4 : decode cX2_isWord 4 = .ok (.iload_n 0, 1) := by decide +kernel
theorem dX2_isWord_5 : decode cX2_isWord 5 = .ok (.bipush 32, 2) := by decide +kernel
theorem dX2_isWord_7 : decode cX2_isWord 7 = .ok (.if_icmp .ge 7, 3) := by decide +kernel
theorem dX2_isWord_10 : decode cX2_isWord 10 = .ok (.iconst 1, 1) := by decide +kernel
theorem dX2_isWord_11 : decode cX2_isWord 11 = .ok (.goto 4, 3) := by decide +kernel
theorem dX2_isWord_14 : decode cX2_isWord 14 = .ok (.iconst 0, 1) := by decide +kernel
theorem dX2_isWord_15 : decode cX2_isWord 15 = .ok (.ireturn, 1) := by decide +kernel
theorem dX2_valueOf_0 : decode cX2_valueOf 0 = .ok (.aload_n 0, 1) := by decide +kernel
theorem dX2_valueOf_1 : decode cX2_valueOf 1 = .ok (.getfield 149, 3) := by decide +kernel
theorem dX2_valueOf_4 : decode cX2_valueOf 4 = .ok (.getfield 209, 3) := by decide +kernel
theorem dX2_valueOf_7 : decode cX2_valueOf 7 = .ok (.tableswitch 169 0 16 #[81, 85, 89, 93, 97, 101, 108, 119, 123, 135, 145, 169, 153, 169, 169, 155, 162], 81) := by decide +kernel
theorem dX2_valueOf_88 : decode cX2_valueOf 88 = .ok (.iload_n 1, 1) := by decide +kernel
theorem dX2_valueOf_89 : decode cX2_valueOf 89 = .ok (.iload_n 2, 1) := by decide +kernel
theorem dX2_valueOf_90 : decode cX2_valueOf 90 = .ok (.iadd, 1) := by decide +kernel
theorem dX2_valueOf_91 : decode cX2_valueOf 91 = .ok (.ireturn, 1) := by decide +kernel
theorem dX2_valueOf_92 : decode cX2_valueOf 92 = .ok (.iload_n 1, 1) := by decide +kernel
theorem dX2_valueOf_93 : decode cX2_valueOf 93 = .ok (.iload_n 2, 1) := by decide +kernel
theorem dX2_valueOf_94 : decode cX2_valueOf 94 = .ok (.isub, 1) := by decide +kernel
theorem dX2_valueOf_95 : decode cX2_valueOf 95 = .ok (.ireturn, 1) := by decide +kernel
theorem dX2_valueOf_96 : decode cX2_valueOf 96 = .ok (.iload_n 1, 1) := by decide +kernel
theorem dX2_valueOf_97 : decode cX2_valueOf 97 = .ok (.iload_n 2, 1) := by decide +kernel
theorem dX2_valueOf_98 : decode cX2_valueOf 98 = .ok (.iand, 1) := by decide +kernel
theorem dX2_valueOf_99 : decode cX2_valueOf 99 = .ok (.ireturn, 1) := by decide +kernel
theorem dX2_valueOf_100 : decode cX2_valueOf 100 = .ok (.iload_n 1, 1) := by decide +kernel
theorem dX2_valueOf_101 : decode cX2_valueOf 101 = .ok (.iload_n 2, 1) := by decide +kernel
theorem dX2_valueOf_102 : decode cX2_valueOf 102 = .ok (.ior, 1) := by decide +kernel
theorem dX2_valueOf_103 : decode cX2_valueOf 103 = .ok (.ireturn, 1) := by decide +kernel
theorem dX2_valueOf_104 : decode cX2_valueOf 104 = .ok (.iload_n 1, 1) := by decide +kernel
theorem dX2_valueOf_105 : decode cX2_valueOf 105 = .ok (.iload_n 2, 1) := by decide +kernel
theorem dX2_valueOf_106 : decode cX2_valueOf 106 = .ok (.ixor, 1) := by decide +kernel
theorem dX2_valueOf_107 : decode cX2_valueOf 107 = .ok (.ireturn, 1) := by decide +kernel
theorem dX2_valueOf_108 : decode cX2_valueOf 108 = .ok (.iload_n 1, 1) := by decide +kernel
theorem dX2_valueOf_109 : decode cX2_valueOf 109 = .ok (.iload_n 2, 1) := by decide +kernel
theorem dX2_valueOf_110 : decode cX2_valueOf 110 = .ok (.bipush 31, 2) := by decide +kernel
theorem dX2_valueOf_112 : decode cX2_valueOf 112 = .ok (.iand, 1) := by decide +kernel
theorem dX2_valueOf_113 : decode cX2_valueOf 113 = .ok (.ishl, 1) := by decide +kernel
theorem dX2_valueOf_114 : decode cX2_valueOf 114 = .ok (.ireturn, 1) := by decide +kernel
theorem dX2_valueOf_115 : decode cX2_valueOf 115 = .ok (.iload_n 1, 1) := by decide +kernel
theorem dX2_valueOf_116 : decode cX2_valueOf 116 = .ok (.iload_n 2, 1) := by decide +kernel
theorem dX2_valueOf_117 : decode cX2_valueOf 117 = .ok (.if_icmp .ge 7, 3) := by decide +kernel
theorem dX2_valueOf_120 : decode cX2_valueOf 120 = .ok (.iconst 1, 1) := by decide +kernel
theorem dX2_valueOf_121 : decode cX2_valueOf 121 = .ok (.goto 4, 3) := by decide +kernel
theorem dX2_valueOf_124 : decode cX2_valueOf 124 = .ok (.iconst 0, 1) := by decide +kernel
theorem dX2_valueOf_125 : decode cX2_valueOf 125 = .ok (.ireturn, 1) := by decide +kernel
theorem dX2_valueOf_126 : decode cX2_valueOf 126 = .ok (.iload_n 1, 1) := by decide +kernel
theorem dX2_valueOf_127 : decode cX2_valueOf 127 = .ok (.iload_n 2, 1) := by decide +kernel
theorem dX2_valueOf_128 : decode cX2_valueOf 128 = .ok (.imul, 1) := by decide +kernel
theorem dX2_valueOf_129 : decode cX2_valueOf 129 = .ok (.ireturn, 1) := by decide +kernel
theorem dX2_valueOf_130 : decode cX2_valueOf 130 = .ok (.iload_n 2, 1) := by decide +kernel
theorem dX2_valueOf_131 : decode cX2_valueOf 131 = .ok (.ifCond .ne 7, 3) := by decide +kernel
theorem dX2_valueOf_134 : decode cX2_valueOf 134 = .ok (.iconst 0, 1) := by decide +kernel
theorem dX2_valueOf_135 : decode cX2_valueOf 135 = .ok (.goto 6, 3) := by decide +kernel
theorem dX2_valueOf_138 : decode cX2_valueOf 138 = .ok (.iload_n 1, 1) := by decide +kernel
theorem dX2_valueOf_139 : decode cX2_valueOf 139 = .ok (.iload_n 2, 1) := by decide +kernel
theorem dX2_valueOf_140 : decode cX2_valueOf 140 = .ok (.idiv, 1) := by decide +kernel
theorem dX2_valueOf_141 : decode cX2_valueOf 141 = .ok (.ireturn, 1) := by decide +kernel
theorem dX2_valueOf_142 : decode cX2_valueOf 142 = .ok (.iload_n 1, 1) := by decide +kernel
theorem dX2_valueOf_143 : decode cX2_valueOf 143 = .ok (.aload_n 0, 1) := by decide +kernel
theorem dX2_valueOf_144 : decode cX2_valueOf 144 = .ok (.getfield 149, 3) := by decide +kernel
theorem dX2_valueOf_147 : decode cX2_valueOf 147 = .ok (.getfield 206, 3) := by decide +kernel
theorem dX2_valueOf_150 : decode cX2_valueOf 150 = .ok (.iadd, 1) := by decide +kernel
theorem dX2_valueOf_151 : decode cX2_valueOf 151 = .ok (.ireturn, 1) := by decide +kernel
theorem dX2_valueOf_152 : decode cX2_valueOf 152 = .ok (.aload_n 0, 1) := by decide +kernel
theorem dX2_valueOf_153 : decode cX2_valueOf 153 = .ok (.getfield 149, 3) := by decide +kernel
theorem dX2_valueOf_156 : decode cX2_valueOf 156 = .ok (.getfield 206, 3) := by decide +kernel
theorem dX2_valueOf_159 : decode cX2_valueOf 159 = .ok (.ireturn, 1) := by decide +kernel
theorem dX2_valueOf_160 : decode cX2_valueOf 160 = .ok (.iload_n 2, 1) := by decide +kernel
theorem dX2_valueOf_161 : decode cX2_valueOf 161 = .ok (.ireturn, 1) := by decide +kernel
theorem dX2_valueOf_162 : decode cX2_valueOf 162 = .ok (.aload_n 0, 1) := by decide +kernel
theorem dX2_valueOf_163 : decode cX2_valueOf 163 = .ok (.getfield 83, 3) := by decide +kernel
theorem dX2_valueOf_166 : decode cX2_valueOf 166 = .ok (.iconst 1, 1) := by decide +kernel
theorem dX2_valueOf_167 : decode cX2_valueOf 167 = .ok (.iadd, 1) := by decide +kernel
theorem dX2_valueOf_168 : decode cX2_valueOf 168 = .ok (.ireturn, 1) := by decide +kernel
theorem dX2_valueOf_169 : decode cX2_valueOf 169 = .ok (.aload_n 0, 1) := by decide +kernel
theorem dX2_valueOf_170 : decode cX2_valueOf 170 = .ok (.getfield 83, 3) := by decide +kernel
theorem dX2_valueOf_173 : decode cX2_valueOf 173 = .ok (.iconst 1, 1) := by decide +kernel
theorem dX2_valueOf_174 : decode cX2_valueOf 174 = .ok (.iadd, 1) := by decide +kernel
theorem dX2_valueOf_175 : decode cX2_valueOf 175 = .ok (.ireturn, 1) := by decide +kernel
theorem dX2_valueOf_176 : decode cX2_valueOf 176 = .ok (.iconst 0, 1) := by decide +kernel
theorem dX2_valueOf_177 : decode cX2_valueOf 177 = .ok (.ireturn, 1) := by decide +kernel
theorem dX2_goesElsewhere_0 : decode cX2_goesElsewhere 0 = .ok (.iload_n 0, 1) := by decide +kernel
theorem dX2_goesElsewhere_1 : decode cX2_goesElsewhere 1 = .ok (.tableswitch 57 13 16 #[31, 42, 53, 55], 31) := by decide +kernel
theorem dX2_goesElsewhere_32 : decode cX2_goesElsewhere 32 = .ok (.iload_n 1, 1) := by decide +kernel
theorem dX2_goesElsewhere_33 : decode cX2_goesElsewhere 33 = .ok (.iload_n 2, 1) := by decide +kernel
theorem dX2_goesElsewhere_34 : decode cX2_goesElsewhere 34 = .ok (.if_icmp .ne 7, 3) := by decide +kernel
theorem dX2_goesElsewhere_37 : decode cX2_goesElsewhere 37 = .ok (.iconst 1, 1) := by decide +kernel
theorem dX2_goesElsewhere_38 : decode cX2_goesElsewhere 38 = .ok (.goto 4, 3) := by decide +kernel
theorem dX2_goesElsewhere_41 : decode cX2_goesElsewhere 41 = .ok (.iconst 0, 1) := by decide +kernel
theorem dX2_goesElsewhere_42 : decode cX2_goesElsewhere 42 = .ok (.ireturn, 1) := by decide +kernel
theorem dX2_goesElsewhere_43 : decode cX2_goesElsewhere 43 = .ok (.iload_n 1, 1) := by decide +kernel
theorem dX2_goesElsewhere_44 : decode cX2_goesElsewhere 44 = .ok (.iload_n 2, 1) := by decide +kernel
theorem dX2_goesElsewhere_45 : decode cX2_goesElsewhere 45 = .ok (.if_icmp .eq 7, 3) := by decide +kernel
theorem dX2_goesElsewhere_48 : decode cX2_goesElsewhere 48 = .ok (.iconst 1, 1) := by decide +kernel
theorem dX2_goesElsewhere_49 : decode cX2_goesElsewhere 49 = .ok (.goto 4, 3) := by decide +kernel
theorem dX2_goesElsewhere_52 : decode cX2_goesElsewhere 52 = .ok (.iconst 0, 1) := by decide +kernel
theorem dX2_goesElsewhere_53 : decode cX2_goesElsewhere 53 = .ok (.ireturn, 1) := by decide +kernel
theorem dX2_goesElsewhere_54 : decode cX2_goesElsewhere 54 = .ok (.iconst 1, 1) := by decide +kernel
theorem dX2_goesElsewhere_55 : decode cX2_goesElsewhere 55 = .ok (.ireturn, 1) := by decide +kernel
theorem dX2_goesElsewhere_56 : decode cX2_goesElsewhere 56 = .ok (.iconst 1, 1) := by decide +kernel
theorem dX2_goesElsewhere_57 : decode cX2_goesElsewhere 57 = .ok (.ireturn, 1) := by decide +kernel
theorem dX2_goesElsewhere_58 : decode cX2_goesElsewhere 58 = .ok (.iconst 0, 1) := by decide +kernel
theorem dX2_goesElsewhere_59 : decode cX2_goesElsewhere 59 = .ok (.ireturn, 1) := by decide +kernel
theorem dX2_target_0 : decode cX2_target 0 = .ok (.aload_n 0, 1) := by decide +kernel
theorem dX2_target_1 : decode cX2_target 1 = .ok (.getfield 149, 3) := by decide +kernel
theorem dX2_target_4 : decode cX2_target 4 = .ok (.getfield 209, 3) := by decide +kernel
theorem dX2_target_7 : decode cX2_target 7 = .ok (.bipush 16, 2) := by decide +kernel
theorem dX2_target_9 : decode cX2_target 9 = .ok (.if_icmp .ne 7, 3) := by decide +kernel
theorem dX2_target_12 : decode cX2_target 12 = .ok (.iload_n 1, 1) := by decide +kernel
theorem dX2_target_13 : decode cX2_target 13 = .ok (.goto 7, 3) := by decide +kernel
theorem dX2_target_16 : decode cX2_target 16 = .ok (.aload_n 0, 1) := by decide +kernel
theorem dX2_target_17 : decode cX2_target 17 = .ok (.getfield 83, 3) := by decide +kernel
theorem dX2_target_20 : decode cX2_target 20 = .ok (.istore_n 2, 1) := by decide +kernel
theorem dX2_target_21 : decode cX2_target 21 = .ok (.iload_n 2, 1) := by decide +kernel
theorem dX2_target_22 : decode cX2_target 22 = .ok (.aload_n 0, 1) := by decide +kernel
theorem dX2_target_23 : decode cX2_target 23 = .ok (.getfield 149, 3) := by decide +kernel
theorem dX2_target_26 : decode cX2_target 26 = .ok (.getfield 206, 3) := by decide +kernel
theorem dX2_target_29 : decode cX2_target 29 = .ok (.iadd, 1) := by decide +kernel
theorem dX2_target_30 : decode cX2_target 30 = .ok (.ireturn, 1) := by decide +kernel
theorem dX2_learn_0 : decode cX2_learn 0 = .ok (.iload_n 1, 1) := by decide +kernel
theorem dX2_learn_1 : decode cX2_learn 1 = .ok (.bipush 8, 2) := by decide +kernel
theorem dX2_learn_3 : decode cX2_learn 3 = .ok (.invokestatic 234, 3) := by decide +kernel
theorem dX2_learn_6 : decode cX2_learn 6 = .ok (.istore_n 3, 1) := by decide +kernel
theorem dX2_learn_7 : decode cX2_learn 7 = .ok (.aload_n 0, 1) := by decide +kernel
theorem dX2_learn_8 : decode cX2_learn 8 = .ok (.getfield 29, 3) := by decide +kernel
theorem dX2_learn_11 : decode cX2_learn 11 = .ok (.iload_n 3, 1) := by decide +kernel
theorem dX2_learn_12 : decode cX2_learn 12 = .ok (.iaload, 1) := by decide +kernel
theorem dX2_learn_13 : decode cX2_learn 13 = .ok (.iload_n 2, 1) := by decide +kernel
theorem dX2_learn_14 : decode cX2_learn 14 = .ok (.ifCond .eq 7, 3) := by decide +kernel
theorem dX2_learn_17 : decode cX2_learn 17 = .ok (.iconst 1, 1) := by decide +kernel
theorem dX2_learn_18 : decode cX2_learn 18 = .ok (.goto 4, 3) := by decide +kernel
theorem dX2_learn_21 : decode cX2_learn 21 = .ok (.iconst (-1), 1) := by decide +kernel
theorem dX2_learn_22 : decode cX2_learn 22 = .ok (.iadd, 1) := by decide +kernel
theorem dX2_learn_23 : decode cX2_learn 23 = .ok (.istore 4, 2) := by decide +kernel
theorem dX2_learn_25 : decode cX2_learn 25 = .ok (.aload_n 0, 1) := by decide +kernel
theorem dX2_learn_26 : decode cX2_learn 26 = .ok (.getfield 29, 3) := by decide +kernel
theorem dX2_learn_29 : decode cX2_learn 29 = .ok (.iload_n 3, 1) := by decide +kernel
theorem dX2_learn_30 : decode cX2_learn 30 = .ok (.iconst 0, 1) := by decide +kernel
theorem dX2_learn_31 : decode cX2_learn 31 = .ok (.iconst 3, 1) := by decide +kernel
theorem dX2_learn_32 : decode cX2_learn 32 = .ok (.iload 4, 2) := by decide +kernel
theorem dX2_learn_34 : decode cX2_learn 34 = .ok (.invokestatic 86, 3) := by decide +kernel
theorem dX2_learn_37 : decode cX2_learn 37 = .ok (.invokestatic 237, 3) := by decide +kernel
theorem dX2_learn_40 : decode cX2_learn 40 = .ok (.iastore, 1) := by decide +kernel
theorem dX2_learn_41 : decode cX2_learn 41 = .ok (.return_, 1) := by decide +kernel
theorem dX2_holdAgainstGuess_0 : decode cX2_holdAgainstGuess 0 = .ok (.iload_n 2, 1) := by decide +kernel
theorem dX2_holdAgainstGuess_1 : decode cX2_holdAgainstGuess 1 = .ok (.aload_n 1, 1) := by decide +kernel
theorem dX2_holdAgainstGuess_2 : decode cX2_holdAgainstGuess 2 = .ok (.getfield 240, 3) := by decide +kernel
theorem dX2_holdAgainstGuess_5 : decode cX2_holdAgainstGuess 5 = .ok (.if_icmp .eq 23, 3) := by decide +kernel
theorem dX2_holdAgainstGuess_8 : decode cX2_holdAgainstGuess 8 = .ok (.aload_n 0, 1) := by decide +kernel
theorem dX2_holdAgainstGuess_9 : decode cX2_holdAgainstGuess 9 = .ok (.dup, 1) := by decide +kernel
theorem dX2_holdAgainstGuess_10 : decode cX2_holdAgainstGuess 10 = .ok (.getfield 98, 3) := by decide +kernel
theorem dX2_holdAgainstGuess_13 : decode cX2_holdAgainstGuess 13 = .ok (.iconst 1, 1) := by decide +kernel
theorem dX2_holdAgainstGuess_14 : decode cX2_holdAgainstGuess 14 = .ok (.iadd, 1) := by decide +kernel
theorem dX2_holdAgainstGuess_15 : decode cX2_holdAgainstGuess 15 = .ok (.putfield 98, 3) := by decide +kernel
theorem dX2_holdAgainstGuess_18 : decode cX2_holdAgainstGuess 18 = .ok (.aload_n 0, 1) := by decide +kernel
theorem dX2_holdAgainstGuess_19 : decode cX2_holdAgainstGuess 19 = .ok (.iconst 2, 1) := by decide +kernel
theorem dX2_holdAgainstGuess_20 : decode cX2_holdAgainstGuess 20 = .ok (.invokevirtual 59, 3) := by decide +kernel
theorem dX2_holdAgainstGuess_23 : decode cX2_holdAgainstGuess 23 = .ok (.aload_n 0, 1) := by decide +kernel
theorem dX2_holdAgainstGuess_24 : decode cX2_holdAgainstGuess 24 = .ok (.iload_n 2, 1) := by decide +kernel
theorem dX2_holdAgainstGuess_25 : decode cX2_holdAgainstGuess 25 = .ok (.putfield 63, 3) := by decide +kernel
theorem dX2_holdAgainstGuess_28 : decode cX2_holdAgainstGuess 28 = .ok (.return_, 1) := by decide +kernel
theorem dX2_emptyStagesBelow_0 : decode cX2_emptyStagesBelow 0 = .ok (.iconst 0, 1) := by decide +kernel
theorem dX2_emptyStagesBelow_1 : decode cX2_emptyStagesBelow 1 = .ok (.istore_n 2, 1) := by decide +kernel
theorem dX2_emptyStagesBelow_2 : decode cX2_emptyStagesBelow 2 = .ok (.iload_n 2, 1) := by decide +kernel
theorem dX2_emptyStagesBelow_3 : decode cX2_emptyStagesBelow 3 = .ok (.iload_n 1, 1) := by decide +kernel
theorem dX2_emptyStagesBelow_4 : decode cX2_emptyStagesBelow 4 = .ok (.if_icmp .ge 19, 3) := by decide +kernel
theorem dX2_emptyStagesBelow_7 : decode cX2_emptyStagesBelow 7 = .ok (.aload_n 0, 1) := by decide +kernel
theorem dX2_emptyStagesBelow_8 : decode cX2_emptyStagesBelow 8 = .ok (.getfield 34, 3) := by decide +kernel
theorem dX2_emptyStagesBelow_11 : decode cX2_emptyStagesBelow 11 = .ok (.iload_n 2, 1) := by decide +kernel
theorem dX2_emptyStagesBelow_12 : decode cX2_emptyStagesBelow 12 = .ok (.aaload, 1) := by decide +kernel
theorem dX2_emptyStagesBelow_13 : decode cX2_emptyStagesBelow 13 = .ok (.iconst 0, 1) := by decide +kernel
theorem dX2_emptyStagesBelow_14 : decode cX2_emptyStagesBelow 14 = .ok (.putfield 80, 3) := by decide +kernel
theorem dX2_emptyStagesBelow_17 : decode cX2_emptyStagesBelow 17 = .ok (.iinc 2 1, 3) := by decide +kernel
theorem dX2_emptyStagesBelow_20 : decode cX2_emptyStagesBelow 20 = .ok (.goto (-18), 3) := by decide +kernel
theorem dX2_emptyStagesBelow_23 : decode cX2_emptyStagesBelow 23 = .ok (.return_, 1) := by decide +kernel
theorem dX2_moveOnIfFree_0 : decode cX2_moveOnIfFree 0 = .ok (.aload_n 0, 1) := by decide +kernel
theorem dX2_moveOnIfFree_1 : decode cX2_moveOnIfFree 1 = .ok (.getfield 34, 3) := by decide +kernel
theorem dX2_moveOnIfFree_4 : decode cX2_moveOnIfFree 4 = .ok (.iload_n 1, 1) := by decide +kernel
theorem dX2_moveOnIfFree_5 : decode cX2_moveOnIfFree 5 = .ok (.iconst 1, 1) := by decide +kernel
theorem dX2_moveOnIfFree_6 : decode cX2_moveOnIfFree 6 = .ok (.iadd, 1) := by decide +kernel
theorem dX2_moveOnIfFree_7 : decode cX2_moveOnIfFree 7 = .ok (.aaload, 1) := by decide +kernel
theorem dX2_moveOnIfFree_8 : decode cX2_moveOnIfFree 8 = .ok (.getfield 80, 3) := by decide +kernel
theorem dX2_moveOnIfFree_11 : decode cX2_moveOnIfFree 11 = .ok (.ifCond .ne 33, 3) := by decide +kernel
theorem dX2_moveOnIfFree_14 : decode cX2_moveOnIfFree 14 = .ok (.aload_n 0, 1) := by decide +kernel
theorem dX2_moveOnIfFree_15 : decode cX2_moveOnIfFree 15 = .ok (.getfield 34, 3) := by decide +kernel
theorem dX2_moveOnIfFree_18 : decode cX2_moveOnIfFree 18 = .ok (.iload_n 1, 1) := by decide +kernel
theorem dX2_moveOnIfFree_19 : decode cX2_moveOnIfFree 19 = .ok (.aaload, 1) := by decide +kernel
theorem dX2_moveOnIfFree_20 : decode cX2_moveOnIfFree 20 = .ok (.astore_n 2, 1) := by decide +kernel
theorem dX2_moveOnIfFree_21 : decode cX2_moveOnIfFree 21 = .ok (.aload_n 0, 1) := by decide +kernel
theorem dX2_moveOnIfFree_22 : decode cX2_moveOnIfFree 22 = .ok (.getfield 34, 3) := by decide +kernel
theorem dX2_moveOnIfFree_25 : decode cX2_moveOnIfFree 25 = .ok (.iload_n 1, 1) := by decide +kernel
theorem dX2_moveOnIfFree_26 : decode cX2_moveOnIfFree 26 = .ok (.aload_n 0, 1) := by decide +kernel
theorem dX2_moveOnIfFree_27 : decode cX2_moveOnIfFree 27 = .ok (.getfield 34, 3) := by decide +kernel
theorem dX2_moveOnIfFree_30 : decode cX2_moveOnIfFree 30 = .ok (.iload_n 1, 1) := by decide +kernel
theorem dX2_moveOnIfFree_31 : decode cX2_moveOnIfFree 31 = .ok (.iconst 1, 1) := by decide +kernel
theorem dX2_moveOnIfFree_32 : decode cX2_moveOnIfFree 32 = .ok (.iadd, 1) := by decide +kernel
theorem dX2_moveOnIfFree_33 : decode cX2_moveOnIfFree 33 = .ok (.aaload, 1) := by decide +kernel
theorem dX2_moveOnIfFree_34 : decode cX2_moveOnIfFree 34 = .ok (.aastore, 1) := by decide +kernel
theorem dX2_moveOnIfFree_35 : decode cX2_moveOnIfFree 35 = .ok (.aload_n 0, 1) := by decide +kernel
theorem dX2_moveOnIfFree_36 : decode cX2_moveOnIfFree 36 = .ok (.getfield 34, 3) := by decide +kernel
theorem dX2_moveOnIfFree_39 : decode cX2_moveOnIfFree 39 = .ok (.iload_n 1, 1) := by decide +kernel
theorem dX2_moveOnIfFree_40 : decode cX2_moveOnIfFree 40 = .ok (.iconst 1, 1) := by decide +kernel
theorem dX2_moveOnIfFree_41 : decode cX2_moveOnIfFree 41 = .ok (.iadd, 1) := by decide +kernel
theorem dX2_moveOnIfFree_42 : decode cX2_moveOnIfFree 42 = .ok (.aload_n 2, 1) := by decide +kernel
theorem dX2_moveOnIfFree_43 : decode cX2_moveOnIfFree 43 = .ok (.aastore, 1) := by decide +kernel
theorem dX2_moveOnIfFree_44 : decode cX2_moveOnIfFree 44 = .ok (.return_, 1) := by decide +kernel
theorem dX2_fetchIfFree_0 : decode cX2_fetchIfFree 0 = .ok (.aload_n 1, 1) := by decide +kernel
theorem dX2_fetchIfFree_1 : decode cX2_fetchIfFree 1 = .ok (.getfield 80, 3) := by decide +kernel
theorem dX2_fetchIfFree_4 : decode cX2_fetchIfFree 4 = .ok (.ifCond .eq 4, 3) := by decide +kernel
theorem dX2_fetchIfFree_7 : decode cX2_fetchIfFree 7 = .ok (.return_, 1) := by decide +kernel
theorem dX2_fetchIfFree_8 : decode cX2_fetchIfFree 8 = .ok (.aload_n 0, 1) := by decide +kernel
theorem dX2_fetchIfFree_9 : decode cX2_fetchIfFree 9 = .ok (.getfield 63, 3) := by decide +kernel
theorem dX2_fetchIfFree_12 : decode cX2_fetchIfFree 12 = .ok (.ifCond .lt 16, 3) := by decide +kernel
theorem dX2_fetchIfFree_15 : decode cX2_fetchIfFree 15 = .ok (.aload_n 0, 1) := by decide +kernel
theorem dX2_fetchIfFree_16 : decode cX2_fetchIfFree 16 = .ok (.getfield 63, 3) := by decide +kernel
theorem dX2_fetchIfFree_19 : decode cX2_fetchIfFree 19 = .ok (.bipush 64, 2) := by decide +kernel
theorem dX2_fetchIfFree_21 : decode cX2_fetchIfFree 21 = .ok (.if_icmp .ge 7, 3) := by decide +kernel
theorem dX2_fetchIfFree_24 : decode cX2_fetchIfFree 24 = .ok (.iconst 1, 1) := by decide +kernel
theorem dX2_fetchIfFree_25 : decode cX2_fetchIfFree 25 = .ok (.goto 4, 3) := by decide +kernel
theorem dX2_fetchIfFree_28 : decode cX2_fetchIfFree 28 = .ok (.iconst 0, 1) := by decide +kernel
theorem dX2_fetchIfFree_29 : decode cX2_fetchIfFree 29 = .ok (.istore_n 2, 1) := by decide +kernel
theorem dX2_fetchIfFree_30 : decode cX2_fetchIfFree 30 = .ok (.aload_n 1, 1) := by decide +kernel
theorem dX2_fetchIfFree_31 : decode cX2_fetchIfFree 31 = .ok (.iconst 1, 1) := by decide +kernel
theorem dX2_fetchIfFree_32 : decode cX2_fetchIfFree 32 = .ok (.putfield 80, 3) := by decide +kernel
theorem dX2_fetchIfFree_35 : decode cX2_fetchIfFree 35 = .ok (.aload_n 1, 1) := by decide +kernel
theorem dX2_fetchIfFree_36 : decode cX2_fetchIfFree 36 = .ok (.aload_n 0, 1) := by decide +kernel
theorem dX2_fetchIfFree_37 : decode cX2_fetchIfFree 37 = .ok (.getfield 63, 3) := by decide +kernel
theorem dX2_fetchIfFree_40 : decode cX2_fetchIfFree 40 = .ok (.putfield 83, 3) := by decide +kernel
theorem dX2_fetchIfFree_43 : decode cX2_fetchIfFree 43 = .ok (.aload_n 1, 1) := by decide +kernel
theorem dX2_fetchIfFree_44 : decode cX2_fetchIfFree 44 = .ok (.iload_n 2, 1) := by decide +kernel
theorem dX2_fetchIfFree_45 : decode cX2_fetchIfFree 45 = .ok (.ifCond .eq 15, 3) := by decide +kernel
theorem dX2_fetchIfFree_48 : decode cX2_fetchIfFree 48 = .ok (.aload_n 0, 1) := by decide +kernel
theorem dX2_fetchIfFree_49 : decode cX2_fetchIfFree 49 = .ok (.getfield 18, 3) := by decide +kernel
theorem dX2_fetchIfFree_52 : decode cX2_fetchIfFree 52 = .ok (.aload_n 0, 1) := by decide +kernel
theorem dX2_fetchIfFree_53 : decode cX2_fetchIfFree 53 = .ok (.getfield 63, 3) := by decide +kernel
theorem dX2_fetchIfFree_56 : decode cX2_fetchIfFree 56 = .ok (.aaload, 1) := by decide +kernel
theorem dX2_fetchIfFree_57 : decode cX2_fetchIfFree 57 = .ok (.goto 7, 3) := by decide +kernel
theorem dX2_fetchIfFree_60 : decode cX2_fetchIfFree 60 = .ok (.aload_n 0, 1) := by decide +kernel
theorem dX2_fetchIfFree_61 : decode cX2_fetchIfFree 61 = .ok (.getfield 14, 3) := by decide +kernel
theorem dX2_fetchIfFree_64 : decode cX2_fetchIfFree 64 = .ok (.putfield 149, 3) := by decide +kernel
theorem dX2_fetchIfFree_67 : decode cX2_fetchIfFree 67 = .ok (.aload_n 1, 1) := by decide +kernel
theorem dX2_fetchIfFree_68 : decode cX2_fetchIfFree 68 = .ok (.iload_n 2, 1) := by decide +kernel
theorem dX2_fetchIfFree_69 : decode cX2_fetchIfFree 69 = .ok (.ifCond .eq 7, 3) := by decide +kernel
theorem dX2_fetchIfFree_72 : decode cX2_fetchIfFree 72 = .ok (.iconst 0, 1) := by decide +kernel
theorem dX2_fetchIfFree_73 : decode cX2_fetchIfFree 73 = .ok (.goto 4, 3) := by decide +kernel
theorem dX2_fetchIfFree_76 : decode cX2_fetchIfFree 76 = .ok (.iconst 1, 1) := by decide +kernel
theorem dX2_fetchIfFree_77 : decode cX2_fetchIfFree 77 = .ok (.putfield 136, 3) := by decide +kernel
theorem dX2_fetchIfFree_80 : decode cX2_fetchIfFree 80 = .ok (.aload_n 1, 1) := by decide +kernel
theorem dX2_fetchIfFree_81 : decode cX2_fetchIfFree 81 = .ok (.iconst 0, 1) := by decide +kernel
theorem dX2_fetchIfFree_82 : decode cX2_fetchIfFree 82 = .ok (.putfield 168, 3) := by decide +kernel
theorem dX2_fetchIfFree_85 : decode cX2_fetchIfFree 85 = .ok (.aload_n 1, 1) := by decide +kernel
theorem dX2_fetchIfFree_86 : decode cX2_fetchIfFree 86 = .ok (.iconst 0, 1) := by decide +kernel
theorem dX2_fetchIfFree_87 : decode cX2_fetchIfFree 87 = .ok (.putfield 161, 3) := by decide +kernel
theorem dX2_fetchIfFree_90 : decode cX2_fetchIfFree 90 = .ok (.aload_n 1, 1) := by decide +kernel
theorem dX2_fetchIfFree_91 : decode cX2_fetchIfFree 91 = .ok (.iconst 0, 1) := by decide +kernel
theorem dX2_fetchIfFree_92 : decode cX2_fetchIfFree 92 = .ok (.putfield 158, 3) := by decide +kernel
theorem dX2_fetchIfFree_95 : decode cX2_fetchIfFree 95 = .ok (.aload_n 1, 1) := by decide +kernel
theorem dX2_fetchIfFree_96 : decode cX2_fetchIfFree 96 = .ok (.aload_n 0, 1) := by decide +kernel
theorem dX2_fetchIfFree_97 : decode cX2_fetchIfFree 97 = .ok (.aload_n 1, 1) := by decide +kernel
theorem dX2_fetchIfFree_98 : decode cX2_fetchIfFree 98 = .ok (.getfield 149, 3) := by decide +kernel
theorem dX2_fetchIfFree_101 : decode cX2_fetchIfFree 101 = .ok (.aload_n 0, 1) := by decide +kernel
theorem dX2_fetchIfFree_102 : decode cX2_fetchIfFree 102 = .ok (.getfield 63, 3) := by decide +kernel
theorem dX2_fetchIfFree_105 : decode cX2_fetchIfFree 105 = .ok (.invokevirtual 243, 3) := by decide +kernel
theorem dX2_fetchIfFree_108 : decode cX2_fetchIfFree 108 = .ok (.putfield 240, 3) := by decide +kernel
theorem dX2_fetchIfFree_111 : decode cX2_fetchIfFree 111 = .ok (.aload_n 0, 1) := by decide +kernel
theorem dX2_fetchIfFree_112 : decode cX2_fetchIfFree 112 = .ok (.aload_n 1, 1) := by decide +kernel
theorem dX2_fetchIfFree_113 : decode cX2_fetchIfFree 113 = .ok (.getfield 240, 3) := by decide +kernel
theorem dX2_fetchIfFree_116 : decode cX2_fetchIfFree 116 = .ok (.putfield 63, 3) := by decide +kernel
theorem dX2_fetchIfFree_119 : decode cX2_fetchIfFree 119 = .ok (.return_, 1) := by decide +kernel
theorem dX2_guessNext_0 : decode cX2_guessNext 0 = .ok (.aload_n 1, 1) := by decide +kernel
theorem dX2_guessNext_1 : decode cX2_guessNext 1 = .ok (.getfield 209, 3) := by decide +kernel
theorem dX2_guessNext_4 : decode cX2_guessNext 4 = .ok (.bipush 15, 2) := by decide +kernel
theorem dX2_guessNext_6 : decode cX2_guessNext 6 = .ok (.if_icmp .eq 25, 3) := by decide +kernel
theorem dX2_guessNext_9 : decode cX2_guessNext 9 = .ok (.aload_n 1, 1) := by decide +kernel
theorem dX2_guessNext_10 : decode cX2_guessNext 10 = .ok (.invokevirtual 216, 3) := by decide +kernel
theorem dX2_guessNext_13 : decode cX2_guessNext 13 = .ok (.ifCond .eq 22, 3) := by decide +kernel
theorem dX2_guessNext_16 : decode cX2_guessNext 16 = .ok (.aload_n 0, 1) := by decide +kernel
theorem dX2_guessNext_17 : decode cX2_guessNext 17 = .ok (.getfield 29, 3) := by decide +kernel
theorem dX2_guessNext_20 : decode cX2_guessNext 20 = .ok (.iload_n 2, 1) := by decide +kernel
theorem dX2_guessNext_21 : decode cX2_guessNext 21 = .ok (.bipush 8, 2) := by decide +kernel
theorem dX2_guessNext_23 : decode cX2_guessNext 23 = .ok (.invokestatic 234, 3) := by decide +kernel
theorem dX2_guessNext_26 : decode cX2_guessNext 26 = .ok (.iaload, 1) := by decide +kernel
theorem dX2_guessNext_27 : decode cX2_guessNext 27 = .ok (.iconst 2, 1) := by decide +kernel
theorem dX2_guessNext_28 : decode cX2_guessNext 28 = .ok (.if_icmp .lt 7, 3) := by decide +kernel
theorem dX2_guessNext_31 : decode cX2_guessNext 31 = .ok (.iconst 1, 1) := by decide +kernel
theorem dX2_guessNext_32 : decode cX2_guessNext 32 = .ok (.goto 4, 3) := by decide +kernel
theorem dX2_guessNext_35 : decode cX2_guessNext 35 = .ok (.iconst 0, 1) := by decide +kernel
theorem dX2_guessNext_36 : decode cX2_guessNext 36 = .ok (.istore_n 3, 1) := by decide +kernel
theorem dX2_guessNext_37 : decode cX2_guessNext 37 = .ok (.iload_n 3, 1) := by decide +kernel
theorem dX2_guessNext_38 : decode cX2_guessNext 38 = .ok (.ifCond .eq 12, 3) := by decide +kernel
theorem dX2_guessNext_41 : decode cX2_guessNext 41 = .ok (.iload_n 2, 1) := by decide +kernel
theorem dX2_guessNext_42 : decode cX2_guessNext 42 = .ok (.aload_n 1, 1) := by decide +kernel
theorem dX2_guessNext_43 : decode cX2_guessNext 43 = .ok (.getfield 206, 3) := by decide +kernel
theorem dX2_guessNext_46 : decode cX2_guessNext 46 = .ok (.iadd, 1) := by decide +kernel
theorem dX2_guessNext_47 : decode cX2_guessNext 47 = .ok (.goto 6, 3) := by decide +kernel
theorem dX2_guessNext_50 : decode cX2_guessNext 50 = .ok (.iload_n 2, 1) := by decide +kernel
theorem dX2_guessNext_51 : decode cX2_guessNext 51 = .ok (.iconst 1, 1) := by decide +kernel
theorem dX2_guessNext_52 : decode cX2_guessNext 52 = .ok (.iadd, 1) := by decide +kernel
theorem dX2_guessNext_53 : decode cX2_guessNext 53 = .ok (.ireturn, 1) := by decide +kernel
theorem dX3_init_0 : decode cX3_init 0 = .ok (.aload_n 0, 1) := by decide +kernel
theorem dX3_init_1 : decode cX3_init 1 = .ok (.invokespecial 1, 3) := by decide +kernel
theorem dX3_init_4 : decode cX3_init 4 = .ok (.aload_n 0, 1) := by decide +kernel
theorem dX3_init_5 : decode cX3_init 5 = .ok (.bipush 64, 2) := by decide +kernel
theorem dX3_init_7 : decode cX3_init 7 = .ok (.newarray .int, 2) := by decide +kernel
theorem dX3_init_9 : decode cX3_init 9 = .ok (.putfield 7, 3) := by decide +kernel
theorem dX3_init_12 : decode cX3_init 12 = .ok (.aload_n 0, 1) := by decide +kernel
theorem dX3_init_13 : decode cX3_init 13 = .ok (.bipush 64, 2) := by decide +kernel
theorem dX3_init_15 : decode cX3_init 15 = .ok (.newarray .int, 2) := by decide +kernel
theorem dX3_init_17 : decode cX3_init 17 = .ok (.putfield 13, 3) := by decide +kernel
theorem dX3_init_20 : decode cX3_init 20 = .ok (.aload_n 0, 1) := by decide +kernel
theorem dX3_init_21 : decode cX3_init 21 = .ok (.bipush 64, 2) := by decide +kernel
theorem dX3_init_23 : decode cX3_init 23 = .ok (.newarray .int, 2) := by decide +kernel
theorem dX3_init_25 : decode cX3_init 25 = .ok (.putfield 16, 3) := by decide +kernel
theorem dX3_init_28 : decode cX3_init 28 = .ok (.aload_n 0, 1) := by decide +kernel
theorem dX3_init_29 : decode cX3_init 29 = .ok (.bipush 64, 2) := by decide +kernel
theorem dX3_init_31 : decode cX3_init 31 = .ok (.newarray .int, 2) := by decide +kernel
theorem dX3_init_33 : decode cX3_init 33 = .ok (.putfield 19, 3) := by decide +kernel
theorem dX3_init_36 : decode cX3_init 36 = .ok (.aload_n 0, 1) := by decide +kernel
theorem dX3_init_37 : decode cX3_init 37 = .ok (.bipush 64, 2) := by decide +kernel
theorem dX3_init_39 : decode cX3_init 39 = .ok (.newarray .int, 2) := by decide +kernel
theorem dX3_init_41 : decode cX3_init 41 = .ok (.putfield 22, 3) := by decide +kernel
theorem dX3_init_44 : decode cX3_init 44 = .ok (.aload_n 0, 1) := by decide +kernel
theorem dX3_init_45 : decode cX3_init 45 = .ok (.bipush 32, 2) := by decide +kernel
theorem dX3_init_47 : decode cX3_init 47 = .ok (.newarray .int, 2) := by decide +kernel
theorem dX3_init_49 : decode cX3_init 49 = .ok (.putfield 25, 3) := by decide +kernel
theorem dX3_init_52 : decode cX3_init 52 = .ok (.aload_n 0, 1) := by decide +kernel
theorem dX3_init_53 : decode cX3_init 53 = .ok (.bipush 16, 2) := by decide +kernel
theorem dX3_init_55 : decode cX3_init 55 = .ok (.newarray .int, 2) := by decide +kernel
theorem dX3_init_57 : decode cX3_init 57 = .ok (.putfield 28, 3) := by decide +kernel
theorem dX3_init_60 : decode cX3_init 60 = .ok (.aload_n 0, 1) := by decide +kernel
theorem dX3_init_61 : decode cX3_init 61 = .ok (.bipush 8, 2) := by decide +kernel
theorem dX3_init_63 : decode cX3_init 63 = .ok (.newarray .int, 2) := by decide +kernel
theorem dX3_init_65 : decode cX3_init 65 = .ok (.putfield 31, 3) := by decide +kernel
theorem dX3_init_68 : decode cX3_init 68 = .ok (.aload_n 0, 1) := by decide +kernel
theorem dX3_init_69 : decode cX3_init 69 = .ok (.iconst 5, 1) := by decide +kernel
theorem dX3_init_70 : decode cX3_init 70 = .ok (.newarray .boolean, 2) := by decide +kernel
theorem dX3_init_72 : decode cX3_init 72 = .ok (.putfield 34, 3) := by decide +kernel
theorem dX3_init_75 : decode cX3_init 75 = .ok (.aload_n 0, 1) := by decide +kernel
theorem dX3_init_76 : decode cX3_init 76 = .ok (.iconst 5, 1) := by decide +kernel
theorem dX3_init_77 : decode cX3_init 77 = .ok (.newarray .int, 2) := by decide +kernel
theorem dX3_init_79 : decode cX3_init 79 = .ok (.putfield 38, 3) := by decide +kernel
theorem dX3_init_82 : decode cX3_init 82 = .ok (.aload_n 0, 1) := by decide +kernel
theorem dX3_init_83 : decode cX3_init 83 = .ok (.iconst 5, 1) := by decide +kernel
theorem dX3_init_84 : decode cX3_init 84 = .ok (.newarray .int, 2) := by decide +kernel
theorem dX3_init_86 : decode cX3_init 86 = .ok (.putfield 41, 3) := by decide +kernel
theorem dX3_init_89 : decode cX3_init 89 = .ok (.aload_n 0, 1) := by decide +kernel
theorem dX3_init_90 : decode cX3_init 90 = .ok (.iconst 5, 1) := by decide +kernel
theorem dX3_init_91 : decode cX3_init 91 = .ok (.newarray .int, 2) := by decide +kernel
theorem dX3_init_93 : decode cX3_init 93 = .ok (.putfield 44, 3) := by decide +kernel
theorem dX3_init_96 : decode cX3_init 96 = .ok (.aload_n 0, 1) := by decide +kernel
theorem dX3_init_97 : decode cX3_init 97 = .ok (.iconst 5, 1) := by decide +kernel
theorem dX3_init_98 : decode cX3_init 98 = .ok (.newarray .int, 2) := by decide +kernel
theorem dX3_init_100 : decode cX3_init 100 = .ok (.putfield 47, 3) := by decide +kernel
theorem dX3_init_103 : decode cX3_init 103 = .ok (.aload_n 0, 1) := by decide +kernel
theorem dX3_init_104 : decode cX3_init 104 = .ok (.iconst 5, 1) := by decide +kernel
theorem dX3_init_105 : decode cX3_init 105 = .ok (.newarray .int, 2) := by decide +kernel
theorem dX3_init_107 : decode cX3_init 107 = .ok (.putfield 50, 3) := by decide +kernel
theorem dX3_init_110 : decode cX3_init 110 = .ok (.aload_n 0, 1) := by decide +kernel
theorem dX3_init_111 : decode cX3_init 111 = .ok (.iconst 5, 1) := by decide +kernel
theorem dX3_init_112 : decode cX3_init 112 = .ok (.newarray .int, 2) := by decide +kernel
theorem dX3_init_114 : decode cX3_init 114 = .ok (.putfield 53, 3) := by decide +kernel
theorem dX3_init_117 : decode cX3_init 117 = .ok (.aload_n 0, 1) := by decide +kernel
theorem dX3_init_118 : decode cX3_init 118 = .ok (.iconst 5, 1) := by decide +kernel
theorem dX3_init_119 : decode cX3_init 119 = .ok (.newarray .int, 2) := by decide +kernel
theorem dX3_init_121 : decode cX3_init 121 = .ok (.putfield 56, 3) := by decide +kernel
theorem dX3_init_124 : decode cX3_init 124 = .ok (.aload_n 0, 1) := by decide +kernel
theorem dX3_init_125 : decode cX3_init 125 = .ok (.iconst 5, 1) := by decide +kernel
theorem dX3_init_126 : decode cX3_init 126 = .ok (.newarray .int, 2) := by decide +kernel
theorem dX3_init_128 : decode cX3_init 128 = .ok (.putfield 59, 3) := by decide +kernel
theorem dX3_init_131 : decode cX3_init 131 = .ok (.aload_n 0, 1) := by decide +kernel
theorem dX3_init_132 : decode cX3_init 132 = .ok (.iconst 5, 1) := by decide +kernel
theorem dX3_init_133 : decode cX3_init 133 = .ok (.newarray .int, 2) := by decide +kernel
theorem dX3_init_135 : decode cX3_init 135 = .ok (.putfield 62, 3) := by decide +kernel
theorem dX3_init_138 : decode cX3_init 138 = .ok (.aload_n 0, 1) := by decide +kernel
theorem dX3_init_139 : decode cX3_init 139 = .ok (.iconst 5, 1) := by decide +kernel
theorem dX3_init_140 : decode cX3_init 140 = .ok (.newarray .int, 2) := by decide +kernel
theorem dX3_init_142 : decode cX3_init 142 = .ok (.putfield 65, 3) := by decide +kernel
theorem dX3_init_145 : decode cX3_init 145 = .ok (.aload_n 0, 1) := by decide +kernel
theorem dX3_init_146 : decode cX3_init 146 = .ok (.bipush 16, 2) := by decide +kernel
theorem dX3_init_148 : decode cX3_init 148 = .ok (.newarray .int, 2) := by decide +kernel
theorem dX3_init_150 : decode cX3_init 150 = .ok (.putfield 68, 3) := by decide +kernel
theorem dX3_init_153 : decode cX3_init 153 = .ok (.iconst 0, 1) := by decide +kernel
theorem dX3_init_154 : decode cX3_init 154 = .ok (.istore_n 1, 1) := by decide +kernel
theorem dX3_init_155 : decode cX3_init 155 = .ok (.iload_n 1, 1) := by decide +kernel
theorem dX3_init_156 : decode cX3_init 156 = .ok (.bipush 64, 2) := by decide +kernel
theorem dX3_init_158 : decode cX3_init 158 = .ok (.if_icmp .ge 17, 3) := by decide +kernel
theorem dX3_init_161 : decode cX3_init 161 = .ok (.aload_n 0, 1) := by decide +kernel
theorem dX3_init_162 : decode cX3_init 162 = .ok (.getfield 7, 3) := by decide +kernel
theorem dX3_init_165 : decode cX3_init 165 = .ok (.iload_n 1, 1) := by decide +kernel
theorem dX3_init_166 : decode cX3_init 166 = .ok (.bipush 19, 2) := by decide +kernel
theorem dX3_init_168 : decode cX3_init 168 = .ok (.iastore, 1) := by decide +kernel
theorem dX3_init_169 : decode cX3_init 169 = .ok (.iinc 1 1, 3) := by decide +kernel
theorem dX3_init_172 : decode cX3_init 172 = .ok (.goto (-17), 3) := by decide +kernel
theorem dX3_init_175 : decode cX3_init 175 = .ok (.iconst 0, 1) := by decide +kernel
theorem dX3_init_176 : decode cX3_init 176 = .ok (.istore_n 1, 1) := by decide +kernel
theorem dX3_init_177 : decode cX3_init 177 = .ok (.iload_n 1, 1) := by decide +kernel
theorem dX3_init_178 : decode cX3_init 178 = .ok (.bipush 8, 2) := by decide +kernel
theorem dX3_init_180 : decode cX3_init 180 = .ok (.if_icmp .ge 16, 3) := by decide +kernel
theorem dX3_init_183 : decode cX3_init 183 = .ok (.aload_n 0, 1) := by decide +kernel
theorem dX3_init_184 : decode cX3_init 184 = .ok (.getfield 31, 3) := by decide +kernel
theorem dX3_init_187 : decode cX3_init 187 = .ok (.iload_n 1, 1) := by decide +kernel
theorem dX3_init_188 : decode cX3_init 188 = .ok (.iconst 1, 1) := by decide +kernel
theorem dX3_init_189 : decode cX3_init 189 = .ok (.iastore, 1) := by decide +kernel
theorem dX3_init_190 : decode cX3_init 190 = .ok (.iinc 1 1, 3) := by decide +kernel
theorem dX3_init_193 : decode cX3_init 193 = .ok (.goto (-16), 3) := by decide +kernel
theorem dX3_init_196 : decode cX3_init 196 = .ok (.return_, 1) := by decide +kernel
theorem dX3_thrown_0 : decode cX3_thrown 0 = .ok (.aload_n 0, 1) := by decide +kernel
theorem dX3_thrown_1 : decode cX3_thrown 1 = .ok (.getfield 71, 3) := by decide +kernel
theorem dX3_thrown_4 : decode cX3_thrown 4 = .ok (.ireturn, 1) := by decide +kernel
theorem dX3_out_0 : decode cX3_out 0 = .ok (.aload_n 0, 1) := by decide +kernel
theorem dX3_out_1 : decode cX3_out 1 = .ok (.iload_n 1, 1) := by decide +kernel
theorem dX3_out_2 : decode cX3_out 2 = .ok (.iload_n 2, 1) := by decide +kernel
theorem dX3_out_3 : decode cX3_out 3 = .ok (.if_icmp .lt 12, 3) := by decide +kernel
theorem dX3_out_6 : decode cX3_out 6 = .ok (.iload_n 1, 1) := by decide +kernel
theorem dX3_out_7 : decode cX3_out 7 = .ok (.iload_n 3, 1) := by decide +kernel
theorem dX3_out_8 : decode cX3_out 8 = .ok (.if_icmp .gt 7, 3) := by decide +kernel
theorem dX3_out_11 : decode cX3_out 11 = .ok (.iconst 0, 1) := by decide +kernel
theorem dX3_out_12 : decode cX3_out 12 = .ok (.goto 4, 3) := by decide +kernel
theorem dX3_out_15 : decode cX3_out 15 = .ok (.iconst 1, 1) := by decide +kernel
theorem dX3_out_16 : decode cX3_out 16 = .ok (.putfield 71, 3) := by decide +kernel
theorem dX3_out_19 : decode cX3_out 19 = .ok (.aload_n 0, 1) := by decide +kernel
theorem dX3_out_20 : decode cX3_out 20 = .ok (.getfield 71, 3) := by decide +kernel
theorem dX3_out_23 : decode cX3_out 23 = .ok (.ifCond .le 7, 3) := by decide +kernel
theorem dX3_out_26 : decode cX3_out 26 = .ok (.iconst 1, 1) := by decide +kernel
theorem dX3_out_27 : decode cX3_out 27 = .ok (.goto 4, 3) := by decide +kernel
theorem dX3_out_30 : decode cX3_out 30 = .ok (.iconst 0, 1) := by decide +kernel
theorem dX3_out_31 : decode cX3_out 31 = .ok (.ireturn, 1) := by decide +kernel
theorem dX3_in_0 : decode cX3_in 0 = .ok (.iload_n 0, 1) := by decide +kernel
theorem dX3_in_1 : decode cX3_in 1 = .ok (.iload_n 1, 1) := by decide +kernel
theorem dX3_in_2 : decode cX3_in 2 = .ok (.if_icmp .lt 12, 3) := by decide +kernel
theorem dX3_in_5 : decode cX3_in 5 = .ok (.iload_n 0, 1) := by decide +kernel
theorem dX3_in_6 : decode cX3_in 6 = .ok (.iload_n 2, 1) := by decide +kernel
theorem dX3_in_7 : decode cX3_in 7 = .ok (.if_icmp .gt 7, 3) := by decide +kernel
theorem dX3_in_10 : decode cX3_in 10 = .ok (.iconst 1, 1) := by decide +kernel
theorem dX3_in_11 : decode cX3_in 11 = .ok (.goto 4, 3) := by decide +kernel
theorem dX3_in_14 : decode cX3_in 14 = .ok (.iconst 0, 1) := by decide +kernel
theorem dX3_in_15 : decode cX3_in 15 = .ok (.ireturn, 1) := by decide +kernel
theorem dX3_put_0 : decode cX3_put 0 = .ok (.aload_n 0, 1) := by decide +kernel
theorem dX3_put_1 : decode cX3_put 1 = .ok (.iload_n 1, 1) := by decide +kernel
theorem dX3_put_2 : decode cX3_put 2 = .ok (.iconst 0, 1) := by decide +kernel
theorem dX3_put_3 : decode cX3_put 3 = .ok (.bipush 63, 2) := by decide +kernel
theorem dX3_put_5 : decode cX3_put 5 = .ok (.invokevirtual 75, 3) := by decide +kernel
theorem dX3_put_8 : decode cX3_put 8 = .ok (.ifCond .eq 4, 3) := by decide +kernel
theorem dX3_put_11 : decode cX3_put 11 = .ok (.return_, 1) := by decide +kernel
theorem dX3_put_12 : decode cX3_put 12 = .ok (.iload_n 2, 1) := by decide +kernel
theorem dX3_put_13 : decode cX3_put 13 = .ok (.iconst 0, 1) := by decide +kernel
theorem dX3_put_14 : decode cX3_put 14 = .ok (.bipush 19, 2) := by decide +kernel
theorem dX3_put_16 : decode cX3_put 16 = .ok (.invokestatic 79, 3) := by decide +kernel
theorem dX3_put_19 : decode cX3_put 19 = .ok (.ifCond .eq 47, 3) := by decide +kernel
theorem dX3_put_22 : decode cX3_put 22 = .ok (.iload_n 3, 1) := by decide +kernel
theorem dX3_put_23 : decode cX3_put 23 = .ok (.iconst 0, 1) := by decide +kernel
theorem dX3_put_24 : decode cX3_put 24 = .ok (.bipush 15, 2) := by decide +kernel
theorem dX3_put_26 : decode cX3_put 26 = .ok (.invokestatic 79, 3) := by decide +kernel
theorem dX3_put_29 : decode cX3_put 29 = .ok (.ifCond .eq 37, 3) := by decide +kernel
theorem dX3_put_32 : decode cX3_put 32 = .ok (.iload 4, 2) := by decide +kernel
theorem dX3_put_34 : decode cX3_put 34 = .ok (.iconst 0, 1) := by decide +kernel
theorem dX3_put_35 : decode cX3_put 35 = .ok (.bipush 15, 2) := by decide +kernel
theorem dX3_put_37 : decode cX3_put 37 = .ok (.invokestatic 79, 3) := by decide +kernel
theorem dX3_put_40 : decode cX3_put 40 = .ok (.ifCond .eq 26, 3) := by decide +kernel
theorem dX3_put_43 : decode cX3_put 43 = .ok (.iload 5, 2) := by decide +kernel
theorem dX3_put_45 : decode cX3_put 45 = .ok (.iconst 0, 1) := by decide +kernel
theorem dX3_put_46 : decode cX3_put 46 = .ok (.bipush 15, 2) := by decide +kernel
theorem dX3_put_48 : decode cX3_put 48 = .ok (.invokestatic 79, 3) := by decide +kernel
theorem dX3_put_51 : decode cX3_put 51 = .ok (.ifCond .eq 15, 3) := by decide +kernel
theorem dX3_put_54 : decode cX3_put 54 = .ok (.iload 6, 2) := by decide +kernel
theorem dX3_put_56 : decode cX3_put 56 = .ok (.bipush (-64), 2) := by decide +kernel
theorem dX3_put_58 : decode cX3_put 58 = .ok (.bipush 63, 2) := by decide +kernel
theorem dX3_put_60 : decode cX3_put 60 = .ok (.invokestatic 79, 3) := by decide +kernel
theorem dX3_put_63 : decode cX3_put 63 = .ok (.ifCond .ne 9, 3) := by decide +kernel
theorem dX3_put_66 : decode cX3_put 66 = .ok (.aload_n 0, 1) := by decide +kernel
theorem dX3_put_67 : decode cX3_put 67 = .ok (.iconst 2, 1) := by decide +kernel
theorem dX3_put_68 : decode cX3_put 68 = .ok (.putfield 71, 3) := by decide +kernel
theorem dX3_put_71 : decode cX3_put 71 = .ok (.return_, 1) := by decide +kernel
theorem dX3_put_72 : decode cX3_put 72 = .ok (.aload_n 0, 1) := by decide +kernel
theorem dX3_put_73 : decode cX3_put 73 = .ok (.getfield 7, 3) := by decide +kernel
theorem dX3_put_76 : decode cX3_put 76 = .ok (.iload_n 1, 1) := by decide +kernel
theorem dX3_put_77 : decode cX3_put 77 = .ok (.iload_n 2, 1) := by decide +kernel
theorem dX3_put_78 : decode cX3_put 78 = .ok (.iastore, 1) := by decide +kernel
theorem dX3_put_79 : decode cX3_put 79 = .ok (.aload_n 0, 1) := by decide +kernel
theorem dX3_put_80 : decode cX3_put 80 = .ok (.getfield 13, 3) := by decide +kernel
theorem dX3_put_83 : decode cX3_put 83 = .ok (.iload_n 1, 1) := by decide +kernel
theorem dX3_put_84 : decode cX3_put 84 = .ok (.iload_n 3, 1) := by decide +kernel
theorem dX3_put_85 : decode cX3_put 85 = .ok (.iastore, 1) := by decide +kernel
theorem dX3_put_86 : decode cX3_put 86 = .ok (.aload_n 0, 1) := by decide +kernel
theorem dX3_put_87 : decode cX3_put 87 = .ok (.getfield 16, 3) := by decide +kernel
theorem dX3_put_90 : decode cX3_put 90 = .ok (.iload_n 1, 1) := by decide +kernel
theorem dX3_put_91 : decode cX3_put 91 = .ok (.iload 4, 2) := by decide +kernel
theorem dX3_put_93 : decode cX3_put 93 = .ok (.iastore, 1) := by decide +kernel
theorem dX3_put_94 : decode cX3_put 94 = .ok (.aload_n 0, 1) := by decide +kernel
theorem dX3_put_95 : decode cX3_put 95 = .ok (.getfield 19, 3) := by decide +kernel
theorem dX3_put_98 : decode cX3_put 98 = .ok (.iload_n 1, 1) := by decide +kernel
theorem dX3_put_99 : decode cX3_put 99 = .ok (.iload 5, 2) := by decide +kernel
theorem dX3_put_101 : decode cX3_put 101 = .ok (.iastore, 1) := by decide +kernel
theorem dX3_put_102 : decode cX3_put 102 = .ok (.aload_n 0, 1) := by decide +kernel
theorem dX3_put_103 : decode cX3_put 103 = .ok (.getfield 22, 3) := by decide +kernel
theorem dX3_put_106 : decode cX3_put 106 = .ok (.iload_n 1, 1) := by decide +kernel
theorem dX3_put_107 : decode cX3_put 107 = .ok (.iload 6, 2) := by decide +kernel
theorem dX3_put_109 : decode cX3_put 109 = .ok (.iastore, 1) := by decide +kernel
theorem dX3_put_110 : decode cX3_put 110 = .ok (.return_, 1) := by decide +kernel
theorem dX3_poke_0 : decode cX3_poke 0 = .ok (.aload_n 0, 1) := by decide +kernel
theorem dX3_poke_1 : decode cX3_poke 1 = .ok (.iload_n 1, 1) := by decide +kernel
theorem dX3_poke_2 : decode cX3_poke 2 = .ok (.iconst 0, 1) := by decide +kernel
theorem dX3_poke_3 : decode cX3_poke 3 = .ok (.bipush 31, 2) := by decide +kernel
theorem dX3_poke_5 : decode cX3_poke 5 = .ok (.invokevirtual 75, 3) := by decide +kernel
theorem dX3_poke_8 : decode cX3_poke 8 = .ok (.ifCond .eq 5, 3) := by decide +kernel
theorem dX3_poke_11 : decode cX3_poke 11 = .ok (.iconst 0, 1) := by decide +kernel
theorem dX3_poke_12 : decode cX3_poke 12 = .ok (.ireturn, 1) := by decide +kernel
theorem dX3_poke_13 : decode cX3_poke 13 = .ok (.aload_n 0, 1) := by decide +kernel
theorem dX3_poke_14 : decode cX3_poke 14 = .ok (.getfield 25, 3) := by decide +kernel
theorem dX3_poke_17 : decode cX3_poke 17 = .ok (.iload_n 1, 1) := by decide +kernel
theorem dX3_poke_18 : decode cX3_poke 18 = .ok (.iaload, 1) := by decide +kernel
theorem dX3_poke_19 : decode cX3_poke 19 = .ok (.istore_n 3, 1) := by decide +kernel
theorem dX3_poke_20 : decode cX3_poke 20 = .ok (.aload_n 0, 1) := by decide +kernel
theorem dX3_poke_21 : decode cX3_poke 21 = .ok (.getfield 25, 3) := by decide +kernel
theorem dX3_poke_24 : decode cX3_poke 24 = .ok (.iload_n 1, 1) := by decide +kernel
theorem dX3_poke_25 : decode cX3_poke 25 = .ok (.iload_n 2, 1) := by decide +kernel
theorem dX3_poke_26 : decode cX3_poke 26 = .ok (.iastore, 1) := by decide +kernel
theorem dX3_poke_27 : decode cX3_poke 27 = .ok (.iload_n 3, 1) := by decide +kernel
theorem dX3_poke_28 : decode cX3_poke 28 = .ok (.ireturn, 1) := by decide +kernel
theorem dX3_peek_0 : decode cX3_peek 0 = .ok (.aload_n 0, 1) := by decide +kernel
theorem dX3_peek_1 : decode cX3_peek 1 = .ok (.iload_n 1, 1) := by decide +kernel
theorem dX3_peek_2 : decode cX3_peek 2 = .ok (.iconst 0, 1) := by decide +kernel
theorem dX3_peek_3 : decode cX3_peek 3 = .ok (.bipush 31, 2) := by decide +kernel
theorem dX3_peek_5 : decode cX3_peek 5 = .ok (.invokevirtual 75, 3) := by decide +kernel
theorem dX3_peek_8 : decode cX3_peek 8 = .ok (.ifCond .eq 7, 3) := by decide +kernel
theorem dX3_peek_11 : decode cX3_peek 11 = .ok (.iconst 0, 1) := by decide +kernel
theorem dX3_peek_12 : decode cX3_peek 12 = .ok (.goto 9, 3) := by decide +kernel
theorem dX3_peek_15 : decode cX3_peek 15 = .ok (.aload_n 0, 1) := by decide +kernel
theorem dX3_peek_16 : decode cX3_peek 16 = .ok (.getfield 25, 3) := by decide +kernel
theorem dX3_peek_19 : decode cX3_peek 19 = .ok (.iload_n 1, 1) := by decide +kernel
theorem dX3_peek_20 : decode cX3_peek 20 = .ok (.iaload, 1) := by decide +kernel
theorem dX3_peek_21 : decode cX3_peek 21 = .ok (.ireturn, 1) := by decide +kernel
theorem dX3_set_0 : decode cX3_set 0 = .ok (.aload_n 0, 1) := by decide +kernel
theorem dX3_set_1 : decode cX3_set 1 = .ok (.iload_n 1, 1) := by decide +kernel
theorem dX3_set_2 : decode cX3_set 2 = .ok (.iconst 1, 1) := by decide +kernel
theorem dX3_set_3 : decode cX3_set 3 = .ok (.bipush 15, 2) := by decide +kernel
theorem dX3_set_5 : decode cX3_set 5 = .ok (.invokevirtual 75, 3) := by decide +kernel
theorem dX3_set_8 : decode cX3_set 8 = .ok (.ifCond .eq 5, 3) := by decide +kernel
theorem dX3_set_11 : decode cX3_set 11 = .ok (.iconst 0, 1) := by decide +kernel
theorem dX3_set_12 : decode cX3_set 12 = .ok (.ireturn, 1) := by decide +kernel
theorem dX3_set_13 : decode cX3_set 13 = .ok (.aload_n 0, 1) := by decide +kernel
theorem dX3_set_14 : decode cX3_set 14 = .ok (.getfield 28, 3) := by decide +kernel
theorem dX3_set_17 : decode cX3_set 17 = .ok (.iload_n 1, 1) := by decide +kernel
theorem dX3_set_18 : decode cX3_set 18 = .ok (.iaload, 1) := by decide +kernel
theorem dX3_set_19 : decode cX3_set 19 = .ok (.istore_n 3, 1) := by decide +kernel
theorem dX3_set_20 : decode cX3_set 20 = .ok (.aload_n 0, 1) := by decide +kernel
theorem dX3_set_21 : decode cX3_set 21 = .ok (.getfield 28, 3) := by decide +kernel
theorem dX3_set_24 : decode cX3_set 24 = .ok (.iload_n 1, 1) := by decide +kernel
theorem dX3_set_25 : decode cX3_set 25 = .ok (.iload_n 2, 1) := by decide +kernel
theorem dX3_set_26 : decode cX3_set 26 = .ok (.iastore, 1) := by decide +kernel
theorem dX3_set_27 : decode cX3_set 27 = .ok (.iload_n 3, 1) := by decide +kernel
theorem dX3_set_28 : decode cX3_set 28 = .ok (.ireturn, 1) := by decide +kernel
theorem dX3_register_0 : decode cX3_register 0 = .ok (.aload_n 0, 1) := by decide +kernel
theorem dX3_register_1 : decode cX3_register 1 = .ok (.iload_n 1, 1) := by decide +kernel
theorem dX3_register_2 : decode cX3_register 2 = .ok (.iconst 0, 1) := by decide +kernel
theorem dX3_register_3 : decode cX3_register 3 = .ok (.bipush 15, 2) := by decide +kernel
theorem dX3_register_5 : decode cX3_register 5 = .ok (.invokevirtual 75, 3) := by decide +kernel
theorem dX3_register_8 : decode cX3_register 8 = .ok (.ifCond .eq 7, 3) := by decide +kernel
theorem dX3_register_11 : decode cX3_register 11 = .ok (.iconst 0, 1) := by decide +kernel
theorem dX3_register_12 : decode cX3_register 12 = .ok (.goto 9, 3) := by decide +kernel
theorem dX3_register_15 : decode cX3_register 15 = .ok (.aload_n 0, 1) := by decide +kernel
theorem dX3_register_16 : decode cX3_register 16 = .ok (.getfield 28, 3) := by decide +kernel
theorem dX3_register_19 : decode cX3_register 19 = .ok (.iload_n 1, 1) := by decide +kernel
theorem dX3_register_20 : decode cX3_register 20 = .ok (.iaload, 1) := by decide +kernel
theorem dX3_register_21 : decode cX3_register 21 = .ok (.ireturn, 1) := by decide +kernel
theorem dX3_empty_0 : decode cX3_empty 0 = .ok (.iconst 0, 1) := by decide +kernel
theorem dX3_empty_1 : decode cX3_empty 1 = .ok (.istore_n 1, 1) := by decide +kernel
theorem dX3_empty_2 : decode cX3_empty 2 = .ok (.iload_n 1, 1) := by decide +kernel
theorem dX3_empty_3 : decode cX3_empty 3 = .ok (.iconst 5, 1) := by decide +kernel
theorem dX3_empty_4 : decode cX3_empty 4 = .ok (.if_icmp .ge 16, 3) := by decide +kernel
theorem dX3_empty_7 : decode cX3_empty 7 = .ok (.aload_n 0, 1) := by decide +kernel
theorem dX3_empty_8 : decode cX3_empty 8 = .ok (.getfield 34, 3) := by decide +kernel
theorem dX3_empty_11 : decode cX3_empty 11 = .ok (.iload_n 1, 1) := by decide +kernel
theorem dX3_empty_12 : decode cX3_empty 12 = .ok (.iconst 0, 1) := by decide +kernel
theorem dX3_empty_13 : decode cX3_empty 13 = .ok (.bastore, 1) := by decide +kernel
theorem dX3_empty_14 : decode cX3_empty 14 = .ok (.iinc 1 1, 3) := by decide +kernel
theorem dX3_empty_17 : decode cX3_empty 17 = .ok (.goto (-15), 3) := by decide +kernel
theorem dX3_empty_20 : decode cX3_empty 20 = .ok (.return_, 1) := by decide +kernel
theorem dX3_start_0 : decode cX3_start 0 = .ok (.aload_n 0, 1) := by decide +kernel
theorem dX3_start_1 : decode cX3_start 1 = .ok (.iload_n 1, 1) := by decide +kernel
theorem dX3_start_2 : decode cX3_start 2 = .ok (.iconst 0, 1) := by decide +kernel
theorem dX3_start_3 : decode cX3_start 3 = .ok (.bipush 63, 2) := by decide +kernel
theorem dX3_start_5 : decode cX3_start 5 = .ok (.invokevirtual 75, 3) := by decide +kernel
theorem dX3_start_8 : decode cX3_start 8 = .ok (.ifCond .eq 4, 3) := by decide +kernel
theorem dX3_start_11 : decode cX3_start 11 = .ok (.return_, 1) := by decide +kernel
theorem dX3_start_12 : decode cX3_start 12 = .ok (.aload_n 0, 1) := by decide +kernel
theorem dX3_start_13 : decode cX3_start 13 = .ok (.invokevirtual 82, 3) := by decide +kernel
theorem dX3_start_16 : decode cX3_start 16 = .ok (.aload_n 0, 1) := by decide +kernel
theorem dX3_start_17 : decode cX3_start 17 = .ok (.iload_n 1, 1) := by decide +kernel
theorem dX3_start_18 : decode cX3_start 18 = .ok (.putfield 85, 3) := by decide +kernel
theorem dX3_start_21 : decode cX3_start 21 = .ok (.aload_n 0, 1) := by decide +kernel
theorem dX3_start_22 : decode cX3_start 22 = .ok (.iconst 0, 1) := by decide +kernel
theorem dX3_start_23 : decode cX3_start 23 = .ok (.putfield 88, 3) := by decide +kernel
theorem dX3_start_26 : decode cX3_start 26 = .ok (.return_, 1) := by decide +kernel
theorem dX3_handler_0 : decode cX3_handler 0 = .ok (.aload_n 0, 1) := by decide +kernel
theorem dX3_handler_1 : decode cX3_handler 1 = .ok (.iload_n 1, 1) := by decide +kernel
theorem dX3_handler_2 : decode cX3_handler 2 = .ok (.iconst 0, 1) := by decide +kernel
theorem dX3_handler_3 : decode cX3_handler 3 = .ok (.bipush 63, 2) := by decide +kernel
theorem dX3_handler_5 : decode cX3_handler 5 = .ok (.invokevirtual 75, 3) := by decide +kernel
theorem dX3_handler_8 : decode cX3_handler 8 = .ok (.ifCond .eq 5, 3) := by decide +kernel
theorem dX3_handler_11 : decode cX3_handler 11 = .ok (.iconst 0, 1) := by decide +kernel
theorem dX3_handler_12 : decode cX3_handler 12 = .ok (.ireturn, 1) := by decide +kernel
theorem dX3_handler_13 : decode cX3_handler 13 = .ok (.aload_n 0, 1) := by decide +kernel
theorem dX3_handler_14 : decode cX3_handler 14 = .ok (.getfield 92, 3) := by decide +kernel
theorem dX3_handler_17 : decode cX3_handler 17 = .ok (.istore_n 2, 1) := by decide +kernel
theorem dX3_handler_18 : decode cX3_handler 18 = .ok (.aload_n 0, 1) := by decide +kernel
theorem dX3_handler_19 : decode cX3_handler 19 = .ok (.iload_n 1, 1) := by decide +kernel
theorem dX3_handler_20 : decode cX3_handler 20 = .ok (.putfield 92, 3) := by decide +kernel
theorem dX3_handler_23 : decode cX3_handler 23 = .ok (.iload_n 2, 1) := by decide +kernel
theorem dX3_handler_24 : decode cX3_handler 24 = .ok (.ireturn, 1) := by decide +kernel
theorem dX3_writes_0 : decode cX3_writes 0 = .ok (.iload_n 0, 1) := by decide +kernel
theorem dX3_writes_1 : decode cX3_writes 1 = .ok (.iconst 0, 1) := by decide +kernel
theorem dX3_writes_2 : decode cX3_writes 2 = .ok (.bipush 11, 2) := by decide +kernel
theorem dX3_writes_4 : decode cX3_writes 4 = .ok (.invokestatic 79, 3) := by decide +kernel
theorem dX3_writes_7 : decode cX3_writes 7 = .ok (.ifCond .ne 15, 3) := by decide +kernel
theorem dX3_writes_10 : decode cX3_writes 10 = .ok (.iload_n 0, 1) := by decide +kernel
theorem dX3_writes_11 : decode cX3_writes 11 = .ok (.bipush 15, 2) := by decide +kernel
theorem dX3_writes_13 : decode cX3_writes 13 = .ok (.if_icmp .eq 9, 3) := by decide +kernel
theorem dX3_writes_16 : decode cX3_writes 16 = .ok (.iload_n 0, 1) := by decide +kernel
theorem dX3_writes_17 : decode cX3_writes 17 = .ok (.bipush 16, 2) := by decide +kernel
theorem dX3_writes_19 : decode cX3_writes 19 = .ok (.if_icmp .ne 7, 3) := by decide +kernel
theorem dX3_writes_22 : decode cX3_writes 22 = .ok (.iconst 1, 1) := by decide +kernel
theorem dX3_writes_23 : decode cX3_writes 23 = .ok (.goto 4, 3) := by decide +kernel
theorem dX3_writes_26 : decode cX3_writes 26 = .ok (.iconst 0, 1) := by decide +kernel
theorem dX3_writes_27 : decode cX3_writes 27 = .ok (.ireturn, 1) := by decide +kernel
theorem dX3_usesFirst_0 : decode cX3_usesFirst 0 = .ok (.iload_n 0, 1) := by decide +kernel
theorem dX3_usesFirst_1 : decode cX3_usesFirst 1 = .ok (.iconst 0, 1) := by decide +kernel
theorem dX3_usesFirst_2 : decode cX3_usesFirst 2 = .ok (.bipush 9, 2) := by decide +kernel
theorem dX3_usesFirst_4 : decode cX3_usesFirst 4 = .ok (.invokestatic 79, 3) := by decide +kernel
theorem dX3_usesFirst_7 : decode cX3_usesFirst 7 = .ok (.ifCond .ne 20, 3) := by decide +kernel
theorem dX3_usesFirst_10 : decode cX3_usesFirst 10 = .ok (.iload_n 0, 1) := by decide +kernel
theorem dX3_usesFirst_11 : decode cX3_usesFirst 11 = .ok (.bipush 11, 2) := by decide +kernel
theorem dX3_usesFirst_13 : decode cX3_usesFirst 13 = .ok (.bipush 14, 2) := by decide +kernel
theorem dX3_usesFirst_15 : decode cX3_usesFirst 15 = .ok (.invokestatic 79, 3) := by decide +kernel
theorem dX3_usesFirst_18 : decode cX3_usesFirst 18 = .ok (.ifCond .ne 9, 3) := by decide +kernel
theorem dX3_usesFirst_21 : decode cX3_usesFirst 21 = .ok (.iload_n 0, 1) := by decide +kernel
theorem dX3_usesFirst_22 : decode cX3_usesFirst 22 = .ok (.bipush 16, 2) := by decide +kernel
theorem dX3_usesFirst_24 : decode cX3_usesFirst 24 = .ok (.if_icmp .ne 7, 3) := by decide +kernel
theorem dX3_usesFirst_27 : decode cX3_usesFirst 27 = .ok (.iconst 1, 1) := by decide +kernel
theorem dX3_usesFirst_28 : decode cX3_usesFirst 28 = .ok (.goto 4, 3) := by decide +kernel
theorem dX3_usesFirst_31 : decode cX3_usesFirst 31 = .ok (.iconst 0, 1) := by decide +kernel
theorem dX3_usesFirst_32 : decode cX3_usesFirst 32 = .ok (.ireturn, 1) := by decide +kernel
theorem dX3_usesSecond_0 : decode cX3_usesSecond 0 = .ok (.iload_n 0, 1) := by decide +kernel
theorem dX3_usesSecond_1 : decode cX3_usesSecond 1 = .ok (.iconst 0, 1) := by decide +kernel
theorem dX3_usesSecond_2 : decode cX3_usesSecond 2 = .ok (.bipush 8, 2) := by decide +kernel
theorem dX3_usesSecond_4 : decode cX3_usesSecond 4 = .ok (.invokestatic 79, 3) := by decide +kernel
theorem dX3_usesSecond_7 : decode cX3_usesSecond 7 = .ok (.ifCond .ne 14, 3) := by decide +kernel
theorem dX3_usesSecond_10 : decode cX3_usesSecond 10 = .ok (.iload_n 0, 1) := by decide +kernel
theorem dX3_usesSecond_11 : decode cX3_usesSecond 11 = .ok (.bipush 12, 2) := by decide +kernel
theorem dX3_usesSecond_13 : decode cX3_usesSecond 13 = .ok (.bipush 14, 2) := by decide +kernel
theorem dX3_usesSecond_15 : decode cX3_usesSecond 15 = .ok (.invokestatic 79, 3) := by decide +kernel
theorem dX3_usesSecond_18 : decode cX3_usesSecond 18 = .ok (.ifCond .eq 7, 3) := by decide +kernel
theorem dX3_usesSecond_21 : decode cX3_usesSecond 21 = .ok (.iconst 1, 1) := by decide +kernel
theorem dX3_usesSecond_22 : decode cX3_usesSecond 22 = .ok (.goto 4, 3) := by decide +kernel
theorem dX3_usesSecond_25 : decode cX3_usesSecond 25 = .ok (.iconst 0, 1) := by decide +kernel
theorem dX3_usesSecond_26 : decode cX3_usesSecond 26 = .ok (.ireturn, 1) := by decide +kernel
theorem dX3_move_0 : decode cX3_move 0 = .ok (.iload_n 1, 1) := by decide +kernel
theorem dX3_move_1 : decode cX3_move 1 = .ok (.iconst 1, 1) := by decide +kernel
theorem dX3_move_2 : decode cX3_move 2 = .ok (.iadd, 1) := by decide +kernel
theorem dX3_move_3 : decode cX3_move 3 = .ok (.istore_n 2, 1) := by decide +kernel
theorem dX3_move_4 : decode cX3_move 4 = .ok (.aload_n 0, 1) := by decide +kernel
theorem dX3_move_5 : decode cX3_move 5 = .ok (.getfield 34, 3) := by decide +kernel
theorem dX3_move_8 : decode cX3_move 8 = .ok (.iload_n 2, 1) := by decide +kernel
theorem dX3_move_9 : decode cX3_move 9 = .ok (.iconst 1, 1) := by decide +kernel
theorem dX3_move_10 : decode cX3_move 10 = .ok (.bastore, 1) := by decide +kernel
theorem dX3_move_11 : decode cX3_move 11 = .ok (.aload_n 0, 1) := by decide +kernel
theorem dX3_move_12 : decode cX3_move 12 = .ok (.getfield 34, 3) := by decide +kernel
theorem dX3_move_15 : decode cX3_move 15 = .ok (.iload_n 1, 1) := by decide +kernel
theorem dX3_move_16 : decode cX3_move 16 = .ok (.iconst 0, 1) := by decide +kernel
theorem dX3_move_17 : decode cX3_move 17 = .ok (.bastore, 1) := by decide +kernel
theorem dX3_move_18 : decode cX3_move 18 = .ok (.aload_n 0, 1) := by decide +kernel
theorem dX3_move_19 : decode cX3_move 19 = .ok (.getfield 38, 3) := by decide +kernel
theorem dX3_move_22 : decode cX3_move 22 = .ok (.iload_n 2, 1) := by decide +kernel
theorem dX3_move_23 : decode cX3_move 23 = .ok (.aload_n 0, 1) := by decide +kernel
theorem dX3_move_24 : decode cX3_move 24 = .ok (.getfield 38, 3) := by decide +kernel
theorem dX3_move_27 : decode cX3_move 27 = .ok (.iload_n 1, 1) := by decide +kernel
theorem dX3_move_28 : decode cX3_move 28 = .ok (.iaload, 1) := by decide +kernel
theorem dX3_move_29 : decode cX3_move 29 = .ok (.iastore, 1) := by decide +kernel
theorem dX3_move_30 : decode cX3_move 30 = .ok (.aload_n 0, 1) := by decide +kernel
theorem dX3_move_31 : decode cX3_move 31 = .ok (.getfield 41, 3) := by decide +kernel
theorem dX3_move_34 : decode cX3_move 34 = .ok (.iload_n 2, 1) := by decide +kernel
theorem dX3_move_35 : decode cX3_move 35 = .ok (.aload_n 0, 1) := by decide +kernel
theorem dX3_move_36 : decode cX3_move 36 = .ok (.getfield 41, 3) := by decide +kernel
theorem dX3_move_39 : decode cX3_move 39 = .ok (.iload_n 1, 1) := by decide +kernel
theorem dX3_move_40 : decode cX3_move 40 = .ok (.iaload, 1) := by decide +kernel
theorem dX3_move_41 : decode cX3_move 41 = .ok (.iastore, 1) := by decide +kernel
theorem dX3_move_42 : decode cX3_move 42 = .ok (.aload_n 0, 1) := by decide +kernel
theorem dX3_move_43 : decode cX3_move 43 = .ok (.getfield 44, 3) := by decide +kernel
theorem dX3_move_46 : decode cX3_move 46 = .ok (.iload_n 2, 1) := by decide +kernel
theorem dX3_move_47 : decode cX3_move 47 = .ok (.aload_n 0, 1) := by decide +kernel
theorem dX3_move_48 : decode cX3_move 48 = .ok (.getfield 44, 3) := by decide +kernel
theorem dX3_move_51 : decode cX3_move 51 = .ok (.iload_n 1, 1) := by decide +kernel
theorem dX3_move_52 : decode cX3_move 52 = .ok (.iaload, 1) := by decide +kernel
theorem dX3_move_53 : decode cX3_move 53 = .ok (.iastore, 1) := by decide +kernel
theorem dX3_move_54 : decode cX3_move 54 = .ok (.aload_n 0, 1) := by decide +kernel
theorem dX3_move_55 : decode cX3_move 55 = .ok (.getfield 47, 3) := by decide +kernel
theorem dX3_move_58 : decode cX3_move 58 = .ok (.iload_n 2, 1) := by decide +kernel
theorem dX3_move_59 : decode cX3_move 59 = .ok (.aload_n 0, 1) := by decide +kernel
theorem dX3_move_60 : decode cX3_move 60 = .ok (.getfield 47, 3) := by decide +kernel
theorem dX3_move_63 : decode cX3_move 63 = .ok (.iload_n 1, 1) := by decide +kernel
theorem dX3_move_64 : decode cX3_move 64 = .ok (.iaload, 1) := by decide +kernel
theorem dX3_move_65 : decode cX3_move 65 = .ok (.iastore, 1) := by decide +kernel
theorem dX3_move_66 : decode cX3_move 66 = .ok (.aload_n 0, 1) := by decide +kernel
theorem dX3_move_67 : decode cX3_move 67 = .ok (.getfield 50, 3) := by decide +kernel
theorem dX3_move_70 : decode cX3_move 70 = .ok (.iload_n 2, 1) := by decide +kernel
theorem dX3_move_71 : decode cX3_move 71 = .ok (.aload_n 0, 1) := by decide +kernel
theorem dX3_move_72 : decode cX3_move 72 = .ok (.getfield 50, 3) := by decide +kernel
theorem dX3_move_75 : decode cX3_move 75 = .ok (.iload_n 1, 1) := by decide +kernel
theorem dX3_move_76 : decode cX3_move 76 = .ok (.iaload, 1) := by decide +kernel
theorem dX3_move_77 : decode cX3_move 77 = .ok (.iastore, 1) := by decide +kernel
theorem dX3_move_78 : decode cX3_move 78 = .ok (.aload_n 0, 1) := by decide +kernel
theorem dX3_move_79 : decode cX3_move 79 = .ok (.getfield 53, 3) := by decide +kernel
theorem dX3_move_82 : decode cX3_move 82 = .ok (.iload_n 2, 1) := by decide +kernel
theorem dX3_move_83 : decode cX3_move 83 = .ok (.aload_n 0, 1) := by decide +kernel
theorem dX3_move_84 : decode cX3_move 84 = .ok (.getfield 53, 3) := by decide +kernel
theorem dX3_move_87 : decode cX3_move 87 = .ok (.iload_n 1, 1) := by decide +kernel
theorem dX3_move_88 : decode cX3_move 88 = .ok (.iaload, 1) := by decide +kernel
theorem dX3_move_89 : decode cX3_move 89 = .ok (.iastore, 1) := by decide +kernel
theorem dX3_move_90 : decode cX3_move 90 = .ok (.aload_n 0, 1) := by decide +kernel
theorem dX3_move_91 : decode cX3_move 91 = .ok (.getfield 56, 3) := by decide +kernel
theorem dX3_move_94 : decode cX3_move 94 = .ok (.iload_n 2, 1) := by decide +kernel
theorem dX3_move_95 : decode cX3_move 95 = .ok (.aload_n 0, 1) := by decide +kernel
theorem dX3_move_96 : decode cX3_move 96 = .ok (.getfield 56, 3) := by decide +kernel
theorem dX3_move_99 : decode cX3_move 99 = .ok (.iload_n 1, 1) := by decide +kernel
theorem dX3_move_100 : decode cX3_move 100 = .ok (.iaload, 1) := by decide +kernel
theorem dX3_move_101 : decode cX3_move 101 = .ok (.iastore, 1) := by decide +kernel
theorem dX3_move_102 : decode cX3_move 102 = .ok (.aload_n 0, 1) := by decide +kernel
theorem dX3_move_103 : decode cX3_move 103 = .ok (.getfield 59, 3) := by decide +kernel
theorem dX3_move_106 : decode cX3_move 106 = .ok (.iload_n 2, 1) := by decide +kernel
theorem dX3_move_107 : decode cX3_move 107 = .ok (.aload_n 0, 1) := by decide +kernel
theorem dX3_move_108 : decode cX3_move 108 = .ok (.getfield 59, 3) := by decide +kernel
theorem dX3_move_111 : decode cX3_move 111 = .ok (.iload_n 1, 1) := by decide +kernel
theorem dX3_move_112 : decode cX3_move 112 = .ok (.iaload, 1) := by decide +kernel
theorem dX3_move_113 : decode cX3_move 113 = .ok (.iastore, 1) := by decide +kernel
theorem dX3_move_114 : decode cX3_move 114 = .ok (.aload_n 0, 1) := by decide +kernel
theorem dX3_move_115 : decode cX3_move 115 = .ok (.getfield 62, 3) := by decide +kernel
theorem dX3_move_118 : decode cX3_move 118 = .ok (.iload_n 2, 1) := by decide +kernel
theorem dX3_move_119 : decode cX3_move 119 = .ok (.aload_n 0, 1) := by decide +kernel
theorem dX3_move_120 : decode cX3_move 120 = .ok (.getfield 62, 3) := by decide +kernel
theorem dX3_move_123 : decode cX3_move 123 = .ok (.iload_n 1, 1) := by decide +kernel
theorem dX3_move_124 : decode cX3_move 124 = .ok (.iaload, 1) := by decide +kernel
theorem dX3_move_125 : decode cX3_move 125 = .ok (.iastore, 1) := by decide +kernel
theorem dX3_move_126 : decode cX3_move 126 = .ok (.aload_n 0, 1) := by decide +kernel
theorem dX3_move_127 : decode cX3_move 127 = .ok (.getfield 65, 3) := by decide +kernel
theorem dX3_move_130 : decode cX3_move 130 = .ok (.iload_n 2, 1) := by decide +kernel
theorem dX3_move_131 : decode cX3_move 131 = .ok (.aload_n 0, 1) := by decide +kernel
theorem dX3_move_132 : decode cX3_move 132 = .ok (.getfield 65, 3) := by decide +kernel
theorem dX3_move_135 : decode cX3_move 135 = .ok (.iload_n 1, 1) := by decide +kernel
theorem dX3_move_136 : decode cX3_move 136 = .ok (.iaload, 1) := by decide +kernel
theorem dX3_move_137 : decode cX3_move 137 = .ok (.iastore, 1) := by decide +kernel
theorem dX3_move_138 : decode cX3_move 138 = .ok (.return_, 1) := by decide +kernel
theorem dX3_leave_0 : decode cX3_leave 0 = .ok (.aload_n 0, 1) := by decide +kernel
theorem dX3_leave_1 : decode cX3_leave 1 = .ok (.getfield 34, 3) := by decide +kernel
theorem dX3_leave_4 : decode cX3_leave 4 = .ok (.iconst 4, 1) := by decide +kernel
theorem dX3_leave_5 : decode cX3_leave 5 = .ok (.baload, 1) := by decide +kernel
theorem dX3_leave_6 : decode cX3_leave 6 = .ok (.ifCond .ne 5, 3) := by decide +kernel
theorem dX3_leave_9 : decode cX3_leave 9 = .ok (.iconst 0, 1) := by decide +kernel
theorem dX3_leave_10 : decode cX3_leave 10 = .ok (.ireturn, 1) := by decide +kernel
theorem dX3_leave_11 : decode cX3_leave 11 = .ok (.aload_n 0, 1) := by decide +kernel
theorem dX3_leave_12 : decode cX3_leave 12 = .ok (.getfield 34, 3) := by decide +kernel
theorem dX3_leave_15 : decode cX3_leave 15 = .ok (.iconst 4, 1) := by decide +kernel
theorem dX3_leave_16 : decode cX3_leave 16 = .ok (.iconst 0, 1) := by decide +kernel
theorem dX3_leave_17 : decode cX3_leave 17 = .ok (.bastore, 1) := by decide +kernel
theorem dX3_leave_18 : decode cX3_leave 18 = .ok (.aload_n 0, 1) := by decide +kernel
theorem dX3_leave_19 : decode cX3_leave 19 = .ok (.getfield 65, 3) := by decide +kernel
theorem dX3_leave_22 : decode cX3_leave 22 = .ok (.iconst 4, 1) := by decide +kernel
theorem dX3_leave_23 : decode cX3_leave 23 = .ok (.iaload, 1) := by decide +kernel
theorem dX3_leave_24 : decode cX3_leave 24 = .ok (.ifCond .le 47, 3) := by decide +kernel
theorem dX3_leave_27 : decode cX3_leave 27 = .ok (.aload_n 0, 1) := by decide +kernel
theorem dX3_leave_28 : decode cX3_leave 28 = .ok (.dup, 1) := by decide +kernel
theorem dX3_leave_29 : decode cX3_leave 29 = .ok (.getfield 95, 3) := by decide +kernel
theorem dX3_leave_32 : decode cX3_leave 32 = .ok (.iconst 1, 1) := by decide +kernel
theorem dX3_leave_33 : decode cX3_leave 33 = .ok (.iadd, 1) := by decide +kernel
theorem dX3_leave_34 : decode cX3_leave 34 = .ok (.putfield 95, 3) := by decide +kernel
theorem dX3_leave_37 : decode cX3_leave 37 = .ok (.aload_n 0, 1) := by decide +kernel
theorem dX3_leave_38 : decode cX3_leave 38 = .ok (.aload_n 0, 1) := by decide +kernel
theorem dX3_leave_39 : decode cX3_leave 39 = .ok (.getfield 65, 3) := by decide +kernel
theorem dX3_leave_42 : decode cX3_leave 42 = .ok (.iconst 4, 1) := by decide +kernel
theorem dX3_leave_43 : decode cX3_leave 43 = .ok (.iaload, 1) := by decide +kernel
theorem dX3_leave_44 : decode cX3_leave 44 = .ok (.putfield 98, 3) := by decide +kernel
theorem dX3_leave_47 : decode cX3_leave 47 = .ok (.aload_n 0, 1) := by decide +kernel
theorem dX3_leave_48 : decode cX3_leave 48 = .ok (.aload_n 0, 1) := by decide +kernel
theorem dX3_leave_49 : decode cX3_leave 49 = .ok (.getfield 38, 3) := by decide +kernel
theorem dX3_leave_52 : decode cX3_leave 52 = .ok (.iconst 4, 1) := by decide +kernel
theorem dX3_leave_53 : decode cX3_leave 53 = .ok (.iaload, 1) := by decide +kernel
theorem dX3_leave_54 : decode cX3_leave 54 = .ok (.putfield 101, 3) := by decide +kernel
theorem dX3_leave_57 : decode cX3_leave 57 = .ok (.aload_n 0, 1) := by decide +kernel
theorem dX3_leave_58 : decode cX3_leave 58 = .ok (.aload_n 0, 1) := by decide +kernel
theorem dX3_leave_59 : decode cX3_leave 59 = .ok (.getfield 92, 3) := by decide +kernel
theorem dX3_leave_62 : decode cX3_leave 62 = .ok (.putfield 85, 3) := by decide +kernel
theorem dX3_leave_65 : decode cX3_leave 65 = .ok (.aload_n 0, 1) := by decide +kernel
theorem dX3_leave_66 : decode cX3_leave 66 = .ok (.invokevirtual 82, 3) := by decide +kernel
theorem dX3_leave_69 : decode cX3_leave 69 = .ok (.iconst 1, 1) := by decide +kernel
theorem dX3_leave_70 : decode cX3_leave 70 = .ok (.ireturn, 1) := by decide +kernel
theorem dX3_leave_71 : decode cX3_leave 71 = .ok (.aload_n 0, 1) := by decide +kernel
theorem dX3_leave_72 : decode cX3_leave 72 = .ok (.getfield 41, 3) := by decide +kernel
theorem dX3_leave_75 : decode cX3_leave 75 = .ok (.iconst 4, 1) := by decide +kernel
theorem dX3_leave_76 : decode cX3_leave 76 = .ok (.iaload, 1) := by decide +kernel
theorem dX3_leave_77 : decode cX3_leave 77 = .ok (.bipush 18, 2) := by decide +kernel
theorem dX3_leave_79 : decode cX3_leave 79 = .ok (.if_icmp .ne 14, 3) := by decide +kernel
theorem dX3_leave_82 : decode cX3_leave 82 = .ok (.aload_n 0, 1) := by decide +kernel
theorem dX3_leave_83 : decode cX3_leave 83 = .ok (.iconst 1, 1) := by decide +kernel
theorem dX3_leave_84 : decode cX3_leave 84 = .ok (.putfield 88, 3) := by decide +kernel
theorem dX3_leave_87 : decode cX3_leave 87 = .ok (.aload_n 0, 1) := by decide +kernel
theorem dX3_leave_88 : decode cX3_leave 88 = .ok (.invokevirtual 82, 3) := by decide +kernel
theorem dX3_leave_91 : decode cX3_leave 91 = .ok (.iconst 1, 1) := by decide +kernel
theorem dX3_leave_92 : decode cX3_leave 92 = .ok (.ireturn, 1) := by decide +kernel
theorem dX3_leave_93 : decode cX3_leave 93 = .ok (.aload_n 0, 1) := by decide +kernel
theorem dX3_leave_94 : decode cX3_leave 94 = .ok (.getfield 41, 3) := by decide +kernel
theorem dX3_leave_97 : decode cX3_leave 97 = .ok (.iconst 4, 1) := by decide +kernel
theorem dX3_leave_98 : decode cX3_leave 98 = .ok (.iaload, 1) := by decide +kernel
theorem dX3_leave_99 : decode cX3_leave 99 = .ok (.invokestatic 104, 3) := by decide +kernel
theorem dX3_leave_102 : decode cX3_leave 102 = .ok (.ifCond .eq 29, 3) := by decide +kernel
theorem dX3_leave_105 : decode cX3_leave 105 = .ok (.aload_n 0, 1) := by decide +kernel
theorem dX3_leave_106 : decode cX3_leave 106 = .ok (.getfield 44, 3) := by decide +kernel
theorem dX3_leave_109 : decode cX3_leave 109 = .ok (.iconst 4, 1) := by decide +kernel
theorem dX3_leave_110 : decode cX3_leave 110 = .ok (.iaload, 1) := by decide +kernel
theorem dX3_leave_111 : decode cX3_leave 111 = .ok (.ifCond .eq 20, 3) := by decide +kernel
theorem dX3_leave_114 : decode cX3_leave 114 = .ok (.aload_n 0, 1) := by decide +kernel
theorem dX3_leave_115 : decode cX3_leave 115 = .ok (.getfield 28, 3) := by decide +kernel
theorem dX3_leave_118 : decode cX3_leave 118 = .ok (.aload_n 0, 1) := by decide +kernel
theorem dX3_leave_119 : decode cX3_leave 119 = .ok (.getfield 44, 3) := by decide +kernel
theorem dX3_leave_122 : decode cX3_leave 122 = .ok (.iconst 4, 1) := by decide +kernel
theorem dX3_leave_123 : decode cX3_leave 123 = .ok (.iaload, 1) := by decide +kernel
theorem dX3_leave_124 : decode cX3_leave 124 = .ok (.aload_n 0, 1) := by decide +kernel
theorem dX3_leave_125 : decode cX3_leave 125 = .ok (.getfield 59, 3) := by decide +kernel
theorem dX3_leave_128 : decode cX3_leave 128 = .ok (.iconst 4, 1) := by decide +kernel
theorem dX3_leave_129 : decode cX3_leave 129 = .ok (.iaload, 1) := by decide +kernel
theorem dX3_leave_130 : decode cX3_leave 130 = .ok (.iastore, 1) := by decide +kernel
theorem dX3_leave_131 : decode cX3_leave 131 = .ok (.aload_n 0, 1) := by decide +kernel
theorem dX3_leave_132 : decode cX3_leave 132 = .ok (.dup, 1) := by decide +kernel
theorem dX3_leave_133 : decode cX3_leave 133 = .ok (.getfield 108, 3) := by decide +kernel
theorem dX3_leave_136 : decode cX3_leave 136 = .ok (.iconst 1, 1) := by decide +kernel
theorem dX3_leave_137 : decode cX3_leave 137 = .ok (.iadd, 1) := by decide +kernel
theorem dX3_leave_138 : decode cX3_leave 138 = .ok (.putfield 108, 3) := by decide +kernel
theorem dX3_leave_141 : decode cX3_leave 141 = .ok (.bipush 15, 2) := by decide +kernel
theorem dX3_leave_143 : decode cX3_leave 143 = .ok (.istore_n 1, 1) := by decide +kernel
theorem dX3_leave_144 : decode cX3_leave 144 = .ok (.iload_n 1, 1) := by decide +kernel
theorem dX3_leave_145 : decode cX3_leave 145 = .ok (.ifCond .le 23, 3) := by decide +kernel
theorem dX3_leave_148 : decode cX3_leave 148 = .ok (.aload_n 0, 1) := by decide +kernel
theorem dX3_leave_149 : decode cX3_leave 149 = .ok (.getfield 68, 3) := by decide +kernel
theorem dX3_leave_152 : decode cX3_leave 152 = .ok (.iload_n 1, 1) := by decide +kernel
theorem dX3_leave_153 : decode cX3_leave 153 = .ok (.aload_n 0, 1) := by decide +kernel
theorem dX3_leave_154 : decode cX3_leave 154 = .ok (.getfield 68, 3) := by decide +kernel
theorem dX3_leave_157 : decode cX3_leave 157 = .ok (.iload_n 1, 1) := by decide +kernel
theorem dX3_leave_158 : decode cX3_leave 158 = .ok (.iconst 1, 1) := by decide +kernel
theorem dX3_leave_159 : decode cX3_leave 159 = .ok (.isub, 1) := by decide +kernel
theorem dX3_leave_160 : decode cX3_leave 160 = .ok (.iaload, 1) := by decide +kernel
theorem dX3_leave_161 : decode cX3_leave 161 = .ok (.iastore, 1) := by decide +kernel
theorem dX3_leave_162 : decode cX3_leave 162 = .ok (.iinc 1 (-1), 3) := by decide +kernel
theorem dX3_leave_165 : decode cX3_leave 165 = .ok (.goto (-21), 3) := by decide +kernel
theorem dX3_leave_168 : decode cX3_leave 168 = .ok (.aload_n 0, 1) := by decide +kernel
theorem dX3_leave_169 : decode cX3_leave 169 = .ok (.getfield 68, 3) := by decide +kernel
theorem dX3_leave_172 : decode cX3_leave 172 = .ok (.iconst 0, 1) := by decide +kernel
theorem dX3_leave_173 : decode cX3_leave 173 = .ok (.aload_n 0, 1) := by decide +kernel
theorem dX3_leave_174 : decode cX3_leave 174 = .ok (.getfield 38, 3) := by decide +kernel
theorem dX3_leave_177 : decode cX3_leave 177 = .ok (.iconst 4, 1) := by decide +kernel
theorem dX3_leave_178 : decode cX3_leave 178 = .ok (.iaload, 1) := by decide +kernel
theorem dX3_leave_179 : decode cX3_leave 179 = .ok (.iastore, 1) := by decide +kernel
theorem dX3_leave_180 : decode cX3_leave 180 = .ok (.aload_n 0, 1) := by decide +kernel
theorem dX3_leave_181 : decode cX3_leave 181 = .ok (.aload_n 0, 1) := by decide +kernel
theorem dX3_leave_182 : decode cX3_leave 182 = .ok (.getfield 111, 3) := by decide +kernel
theorem dX3_leave_185 : decode cX3_leave 185 = .ok (.bipush 16, 2) := by decide +kernel
theorem dX3_leave_187 : decode cX3_leave 187 = .ok (.if_icmp .ge 12, 3) := by decide +kernel
theorem dX3_leave_190 : decode cX3_leave 190 = .ok (.aload_n 0, 1) := by decide +kernel
theorem dX3_leave_191 : decode cX3_leave 191 = .ok (.getfield 111, 3) := by decide +kernel
theorem dX3_leave_194 : decode cX3_leave 194 = .ok (.iconst 1, 1) := by decide +kernel
theorem dX3_leave_195 : decode cX3_leave 195 = .ok (.iadd, 1) := by decide +kernel
theorem dX3_leave_196 : decode cX3_leave 196 = .ok (.goto 5, 3) := by decide +kernel
theorem dX3_leave_199 : decode cX3_leave 199 = .ok (.bipush 16, 2) := by decide +kernel
theorem dX3_leave_201 : decode cX3_leave 201 = .ok (.putfield 111, 3) := by decide +kernel
theorem dX3_leave_204 : decode cX3_leave 204 = .ok (.iconst 0, 1) := by decide +kernel
theorem dX3_leave_205 : decode cX3_leave 205 = .ok (.ireturn, 1) := by decide +kernel
theorem dX3_remember_0 : decode cX3_remember 0 = .ok (.aload_n 0, 1) := by decide +kernel
theorem dX3_remember_1 : decode cX3_remember 1 = .ok (.getfield 34, 3) := by decide +kernel
theorem dX3_remember_4 : decode cX3_remember 4 = .ok (.iconst 3, 1) := by decide +kernel
theorem dX3_remember_5 : decode cX3_remember 5 = .ok (.baload, 1) := by decide +kernel
theorem dX3_remember_6 : decode cX3_remember 6 = .ok (.ifCond .ne 4, 3) := by decide +kernel
theorem dX3_remember_9 : decode cX3_remember 9 = .ok (.return_, 1) := by decide +kernel
theorem dX3_remember_10 : decode cX3_remember 10 = .ok (.aload_n 0, 1) := by decide +kernel
theorem dX3_remember_11 : decode cX3_remember 11 = .ok (.iconst 3, 1) := by decide +kernel
theorem dX3_remember_12 : decode cX3_remember 12 = .ok (.invokevirtual 114, 3) := by decide +kernel
theorem dX3_remember_15 : decode cX3_remember 15 = .ok (.aload_n 0, 1) := by decide +kernel
theorem dX3_remember_16 : decode cX3_remember 16 = .ok (.getfield 65, 3) := by decide +kernel
theorem dX3_remember_19 : decode cX3_remember 19 = .ok (.iconst 4, 1) := by decide +kernel
theorem dX3_remember_20 : decode cX3_remember 20 = .ok (.iaload, 1) := by decide +kernel
theorem dX3_remember_21 : decode cX3_remember 21 = .ok (.ifCond .ne 31, 3) := by decide +kernel
theorem dX3_remember_24 : decode cX3_remember 24 = .ok (.aload_n 0, 1) := by decide +kernel
theorem dX3_remember_25 : decode cX3_remember 25 = .ok (.getfield 41, 3) := by decide +kernel
theorem dX3_remember_28 : decode cX3_remember 28 = .ok (.iconst 4, 1) := by decide +kernel
theorem dX3_remember_29 : decode cX3_remember 29 = .ok (.iaload, 1) := by decide +kernel
theorem dX3_remember_30 : decode cX3_remember 30 = .ok (.bipush 11, 2) := by decide +kernel
theorem dX3_remember_32 : decode cX3_remember 32 = .ok (.if_icmp .ne 20, 3) := by decide +kernel
theorem dX3_remember_35 : decode cX3_remember 35 = .ok (.aload_n 0, 1) := by decide +kernel
theorem dX3_remember_36 : decode cX3_remember 36 = .ok (.getfield 59, 3) := by decide +kernel
theorem dX3_remember_39 : decode cX3_remember 39 = .ok (.iconst 4, 1) := by decide +kernel
theorem dX3_remember_40 : decode cX3_remember 40 = .ok (.aload_n 0, 1) := by decide +kernel
theorem dX3_remember_41 : decode cX3_remember 41 = .ok (.getfield 25, 3) := by decide +kernel
theorem dX3_remember_44 : decode cX3_remember 44 = .ok (.aload_n 0, 1) := by decide +kernel
theorem dX3_remember_45 : decode cX3_remember 45 = .ok (.getfield 62, 3) := by decide +kernel
theorem dX3_remember_48 : decode cX3_remember 48 = .ok (.iconst 4, 1) := by decide +kernel
theorem dX3_remember_49 : decode cX3_remember 49 = .ok (.iaload, 1) := by decide +kernel
theorem dX3_remember_50 : decode cX3_remember 50 = .ok (.iaload, 1) := by decide +kernel
theorem dX3_remember_51 : decode cX3_remember 51 = .ok (.iastore, 1) := by decide +kernel
theorem dX3_remember_52 : decode cX3_remember 52 = .ok (.aload_n 0, 1) := by decide +kernel
theorem dX3_remember_53 : decode cX3_remember 53 = .ok (.getfield 65, 3) := by decide +kernel
theorem dX3_remember_56 : decode cX3_remember 56 = .ok (.iconst 4, 1) := by decide +kernel
theorem dX3_remember_57 : decode cX3_remember 57 = .ok (.iaload, 1) := by decide +kernel
theorem dX3_remember_58 : decode cX3_remember 58 = .ok (.ifCond .ne 31, 3) := by decide +kernel
theorem dX3_remember_61 : decode cX3_remember 61 = .ok (.aload_n 0, 1) := by decide +kernel
theorem dX3_remember_62 : decode cX3_remember 62 = .ok (.getfield 41, 3) := by decide +kernel
theorem dX3_remember_65 : decode cX3_remember 65 = .ok (.iconst 4, 1) := by decide +kernel
theorem dX3_remember_66 : decode cX3_remember 66 = .ok (.iaload, 1) := by decide +kernel
theorem dX3_remember_67 : decode cX3_remember 67 = .ok (.bipush 12, 2) := by decide +kernel
theorem dX3_remember_69 : decode cX3_remember 69 = .ok (.if_icmp .ne 20, 3) := by decide +kernel
theorem dX3_remember_72 : decode cX3_remember 72 = .ok (.aload_n 0, 1) := by decide +kernel
theorem dX3_remember_73 : decode cX3_remember 73 = .ok (.getfield 25, 3) := by decide +kernel
theorem dX3_remember_76 : decode cX3_remember 76 = .ok (.aload_n 0, 1) := by decide +kernel
theorem dX3_remember_77 : decode cX3_remember 77 = .ok (.getfield 62, 3) := by decide +kernel
theorem dX3_remember_80 : decode cX3_remember 80 = .ok (.iconst 4, 1) := by decide +kernel
theorem dX3_remember_81 : decode cX3_remember 81 = .ok (.iaload, 1) := by decide +kernel
theorem dX3_remember_82 : decode cX3_remember 82 = .ok (.aload_n 0, 1) := by decide +kernel
theorem dX3_remember_83 : decode cX3_remember 83 = .ok (.getfield 59, 3) := by decide +kernel
theorem dX3_remember_86 : decode cX3_remember 86 = .ok (.iconst 4, 1) := by decide +kernel
theorem dX3_remember_87 : decode cX3_remember 87 = .ok (.iaload, 1) := by decide +kernel
theorem dX3_remember_88 : decode cX3_remember 88 = .ok (.iastore, 1) := by decide +kernel
theorem dX3_remember_89 : decode cX3_remember 89 = .ok (.return_, 1) := by decide +kernel
theorem dX3_read_0 : decode cX3_read 0 = .ok (.aload_n 0, 1) := by decide +kernel
theorem dX3_read_1 : decode cX3_read 1 = .ok (.getfield 34, 3) := by decide +kernel
theorem dX3_read_4 : decode cX3_read 4 = .ok (.iconst 4, 1) := by decide +kernel
theorem dX3_read_5 : decode cX3_read 5 = .ok (.baload, 1) := by decide +kernel
theorem dX3_read_6 : decode cX3_read 6 = .ok (.ifCond .eq 42, 3) := by decide +kernel
theorem dX3_read_9 : decode cX3_read 9 = .ok (.aload_n 0, 1) := by decide +kernel
theorem dX3_read_10 : decode cX3_read 10 = .ok (.getfield 65, 3) := by decide +kernel
theorem dX3_read_13 : decode cX3_read 13 = .ok (.iconst 4, 1) := by decide +kernel
theorem dX3_read_14 : decode cX3_read 14 = .ok (.iaload, 1) := by decide +kernel
theorem dX3_read_15 : decode cX3_read 15 = .ok (.ifCond .ne 33, 3) := by decide +kernel
theorem dX3_read_18 : decode cX3_read 18 = .ok (.aload_n 0, 1) := by decide +kernel
theorem dX3_read_19 : decode cX3_read 19 = .ok (.getfield 41, 3) := by decide +kernel
theorem dX3_read_22 : decode cX3_read 22 = .ok (.iconst 4, 1) := by decide +kernel
theorem dX3_read_23 : decode cX3_read 23 = .ok (.iaload, 1) := by decide +kernel
theorem dX3_read_24 : decode cX3_read 24 = .ok (.invokestatic 104, 3) := by decide +kernel
theorem dX3_read_27 : decode cX3_read 27 = .ok (.ifCond .eq 21, 3) := by decide +kernel
theorem dX3_read_30 : decode cX3_read 30 = .ok (.aload_n 0, 1) := by decide +kernel
theorem dX3_read_31 : decode cX3_read 31 = .ok (.getfield 44, 3) := by decide +kernel
theorem dX3_read_34 : decode cX3_read 34 = .ok (.iconst 4, 1) := by decide +kernel
theorem dX3_read_35 : decode cX3_read 35 = .ok (.iaload, 1) := by decide +kernel
theorem dX3_read_36 : decode cX3_read 36 = .ok (.iload_n 1, 1) := by decide +kernel
theorem dX3_read_37 : decode cX3_read 37 = .ok (.if_icmp .ne 11, 3) := by decide +kernel
theorem dX3_read_40 : decode cX3_read 40 = .ok (.iload_n 1, 1) := by decide +kernel
theorem dX3_read_41 : decode cX3_read 41 = .ok (.ifCond .eq 7, 3) := by decide +kernel
theorem dX3_read_44 : decode cX3_read 44 = .ok (.iconst 1, 1) := by decide +kernel
theorem dX3_read_45 : decode cX3_read 45 = .ok (.goto 4, 3) := by decide +kernel
theorem dX3_read_48 : decode cX3_read 48 = .ok (.iconst 0, 1) := by decide +kernel
theorem dX3_read_49 : decode cX3_read 49 = .ok (.istore_n 2, 1) := by decide +kernel
theorem dX3_read_50 : decode cX3_read 50 = .ok (.iload_n 2, 1) := by decide +kernel
theorem dX3_read_51 : decode cX3_read 51 = .ok (.ifCond .eq 12, 3) := by decide +kernel
theorem dX3_read_54 : decode cX3_read 54 = .ok (.aload_n 0, 1) := by decide +kernel
theorem dX3_read_55 : decode cX3_read 55 = .ok (.getfield 59, 3) := by decide +kernel
theorem dX3_read_58 : decode cX3_read 58 = .ok (.iconst 4, 1) := by decide +kernel
theorem dX3_read_59 : decode cX3_read 59 = .ok (.iaload, 1) := by decide +kernel
theorem dX3_read_60 : decode cX3_read 60 = .ok (.goto 9, 3) := by decide +kernel
theorem dX3_read_63 : decode cX3_read 63 = .ok (.aload_n 0, 1) := by decide +kernel
theorem dX3_read_64 : decode cX3_read 64 = .ok (.getfield 28, 3) := by decide +kernel
theorem dX3_read_67 : decode cX3_read 67 = .ok (.iload_n 1, 1) := by decide +kernel
theorem dX3_read_68 : decode cX3_read 68 = .ok (.iaload, 1) := by decide +kernel
theorem dX3_read_69 : decode cX3_read 69 = .ok (.ireturn, 1) := by decide +kernel
theorem dX3_reckon_0 : decode cX3_reckon 0 = .ok (.iload_n 0, 1) := by decide +kernel
theorem dX3_reckon_1 : decode cX3_reckon 1 = .ok (.tableswitch 89 0 7 #[47, 51, 55, 59, 63, 67, 74, 85], 47) := by decide +kernel
theorem dX3_reckon_48 : decode cX3_reckon 48 = .ok (.iload_n 1, 1) := by decide +kernel
theorem dX3_reckon_49 : decode cX3_reckon 49 = .ok (.iload_n 2, 1) := by decide +kernel
theorem dX3_reckon_50 : decode cX3_reckon 50 = .ok (.iadd, 1) := by decide +kernel
theorem dX3_reckon_51 : decode cX3_reckon 51 = .ok (.ireturn, 1) := by decide +kernel
theorem dX3_reckon_52 : decode cX3_reckon 52 = .ok (.iload_n 1, 1) := by decide +kernel
theorem dX3_reckon_53 : decode cX3_reckon 53 = .ok (.iload_n 2, 1) := by decide +kernel
theorem dX3_reckon_54 : decode cX3_reckon 54 = .ok (.isub, 1) := by decide +kernel
theorem dX3_reckon_55 : decode cX3_reckon 55 = .ok (.ireturn, 1) := by decide +kernel
theorem dX3_reckon_56 : decode cX3_reckon 56 = .ok (.iload_n 1, 1) := by decide +kernel
theorem dX3_reckon_57 : decode cX3_reckon 57 = .ok (.iload_n 2, 1) := by decide +kernel
theorem dX3_reckon_58 : decode cX3_reckon 58 = .ok (.iand, 1) := by decide +kernel
theorem dX3_reckon_59 : decode cX3_reckon 59 = .ok (.ireturn, 1) := by decide +kernel
theorem dX3_reckon_60 : decode cX3_reckon 60 = .ok (.iload_n 1, 1) := by decide +kernel
theorem dX3_reckon_61 : decode cX3_reckon 61 = .ok (.iload_n 2, 1) := by decide +kernel
theorem dX3_reckon_62 : decode cX3_reckon 62 = .ok (.ior, 1) := by decide +kernel
theorem dX3_reckon_63 : decode cX3_reckon 63 = .ok (.ireturn, 1) := by decide +kernel
theorem dX3_reckon_64 : decode cX3_reckon 64 = .ok (.iload_n 1, 1) := by decide +kernel
theorem dX3_reckon_65 : decode cX3_reckon 65 = .ok (.iload_n 2, 1) := by decide +kernel
theorem dX3_reckon_66 : decode cX3_reckon 66 = .ok (.ixor, 1) := by decide +kernel
theorem dX3_reckon_67 : decode cX3_reckon 67 = .ok (.ireturn, 1) := by decide +kernel
theorem dX3_reckon_68 : decode cX3_reckon 68 = .ok (.iload_n 1, 1) := by decide +kernel
theorem dX3_reckon_69 : decode cX3_reckon 69 = .ok (.iload_n 2, 1) := by decide +kernel
theorem dX3_reckon_70 : decode cX3_reckon 70 = .ok (.bipush 31, 2) := by decide +kernel
theorem dX3_reckon_72 : decode cX3_reckon 72 = .ok (.iand, 1) := by decide +kernel
theorem dX3_reckon_73 : decode cX3_reckon 73 = .ok (.ishl, 1) := by decide +kernel
theorem dX3_reckon_74 : decode cX3_reckon 74 = .ok (.ireturn, 1) := by decide +kernel
theorem dX3_reckon_75 : decode cX3_reckon 75 = .ok (.iload_n 1, 1) := by decide +kernel
theorem dX3_reckon_76 : decode cX3_reckon 76 = .ok (.iload_n 2, 1) := by decide +kernel
theorem dX3_reckon_77 : decode cX3_reckon 77 = .ok (.if_icmp .ge 7, 3) := by decide +kernel
theorem dX3_reckon_80 : decode cX3_reckon 80 = .ok (.iconst 1, 1) := by decide +kernel
theorem dX3_reckon_81 : decode cX3_reckon 81 = .ok (.goto 4, 3) := by decide +kernel
theorem dX3_reckon_84 : decode cX3_reckon 84 = .ok (.iconst 0, 1) := by decide +kernel
theorem dX3_reckon_85 : decode cX3_reckon 85 = .ok (.ireturn, 1) := by decide +kernel
theorem dX3_reckon_86 : decode cX3_reckon 86 = .ok (.iload_n 1, 1) := by decide +kernel
theorem dX3_reckon_87 : decode cX3_reckon 87 = .ok (.iload_n 2, 1) := by decide +kernel
theorem dX3_reckon_88 : decode cX3_reckon 88 = .ok (.imul, 1) := by decide +kernel
theorem dX3_reckon_89 : decode cX3_reckon 89 = .ok (.ireturn, 1) := by decide +kernel
theorem dX3_reckon_90 : decode cX3_reckon 90 = .ok (.iload_n 2, 1) := by decide +kernel
theorem dX3_reckon_91 : decode cX3_reckon 91 = .ok (.ifCond .ne 7, 3) := by decide +kernel
theorem dX3_reckon_94 : decode cX3_reckon 94 = .ok (.iconst 0, 1) := by decide +kernel
theorem dX3_reckon_95 : decode cX3_reckon 95 = .ok (.goto 6, 3) := by decide +kernel
theorem dX3_reckon_98 : decode cX3_reckon 98 = .ok (.iload_n 1, 1) := by decide +kernel
theorem dX3_reckon_99 : decode cX3_reckon 99 = .ok (.iload_n 2, 1) := by decide +kernel
theorem dX3_reckon_100 : decode cX3_reckon 100 = .ok (.idiv, 1) := by decide +kernel
theorem dX3_reckon_101 : decode cX3_reckon 101 = .ok (.ireturn, 1) := by decide +kernel
theorem dX3_work_0 : decode cX3_work 0 = .ok (.aload_n 0, 1) := by decide +kernel
theorem dX3_work_1 : decode cX3_work 1 = .ok (.getfield 41, 3) := by decide +kernel
theorem dX3_work_4 : decode cX3_work 4 = .ok (.iconst 2, 1) := by decide +kernel
theorem dX3_work_5 : decode cX3_work 5 = .ok (.iaload, 1) := by decide +kernel
theorem dX3_work_6 : decode cX3_work 6 = .ok (.istore_n 1, 1) := by decide +kernel
theorem dX3_work_7 : decode cX3_work 7 = .ok (.aload_n 0, 1) := by decide +kernel
theorem dX3_work_8 : decode cX3_work 8 = .ok (.aload_n 0, 1) := by decide +kernel
theorem dX3_work_9 : decode cX3_work 9 = .ok (.getfield 47, 3) := by decide +kernel
theorem dX3_work_12 : decode cX3_work 12 = .ok (.iconst 2, 1) := by decide +kernel
theorem dX3_work_13 : decode cX3_work 13 = .ok (.iaload, 1) := by decide +kernel
theorem dX3_work_14 : decode cX3_work 14 = .ok (.invokevirtual 118, 3) := by decide +kernel
theorem dX3_work_17 : decode cX3_work 17 = .ok (.istore_n 2, 1) := by decide +kernel
theorem dX3_work_18 : decode cX3_work 18 = .ok (.aload_n 0, 1) := by decide +kernel
theorem dX3_work_19 : decode cX3_work 19 = .ok (.aload_n 0, 1) := by decide +kernel
theorem dX3_work_20 : decode cX3_work 20 = .ok (.getfield 50, 3) := by decide +kernel
theorem dX3_work_23 : decode cX3_work 23 = .ok (.iconst 2, 1) := by decide +kernel
theorem dX3_work_24 : decode cX3_work 24 = .ok (.iaload, 1) := by decide +kernel
theorem dX3_work_25 : decode cX3_work 25 = .ok (.invokevirtual 118, 3) := by decide +kernel
theorem dX3_work_28 : decode cX3_work 28 = .ok (.istore_n 3, 1) := by decide +kernel
theorem dX3_work_29 : decode cX3_work 29 = .ok (.aload_n 0, 1) := by decide +kernel
theorem dX3_work_30 : decode cX3_work 30 = .ok (.getfield 38, 3) := by decide +kernel
theorem dX3_work_33 : decode cX3_work 33 = .ok (.iconst 2, 1) := by decide +kernel
theorem dX3_work_34 : decode cX3_work 34 = .ok (.iaload, 1) := by decide +kernel
theorem dX3_work_35 : decode cX3_work 35 = .ok (.istore 4, 2) := by decide +kernel
theorem dX3_work_37 : decode cX3_work 37 = .ok (.aload_n 0, 1) := by decide +kernel
theorem dX3_work_38 : decode cX3_work 38 = .ok (.getfield 53, 3) := by decide +kernel
theorem dX3_work_41 : decode cX3_work 41 = .ok (.iconst 2, 1) := by decide +kernel
theorem dX3_work_42 : decode cX3_work 42 = .ok (.iaload, 1) := by decide +kernel
theorem dX3_work_43 : decode cX3_work 43 = .ok (.istore 5, 2) := by decide +kernel
theorem dX3_work_45 : decode cX3_work 45 = .ok (.iload 4, 2) := by decide +kernel
theorem dX3_work_47 : decode cX3_work 47 = .ok (.iconst 1, 1) := by decide +kernel
theorem dX3_work_48 : decode cX3_work 48 = .ok (.iadd, 1) := by decide +kernel
theorem dX3_work_49 : decode cX3_work 49 = .ok (.istore 6, 2) := by decide +kernel
theorem dX3_work_51 : decode cX3_work 51 = .ok (.iconst 0, 1) := by decide +kernel
theorem dX3_work_52 : decode cX3_work 52 = .ok (.istore 7, 2) := by decide +kernel
theorem dX3_work_54 : decode cX3_work 54 = .ok (.iload_n 1, 1) := by decide +kernel
theorem dX3_work_55 : decode cX3_work 55 = .ok (.bipush 8, 2) := by decide +kernel
theorem dX3_work_57 : decode cX3_work 57 = .ok (.if_icmp .gt 40, 3) := by decide +kernel
theorem dX3_work_60 : decode cX3_work 60 = .ok (.iload_n 1, 1) := by decide +kernel
theorem dX3_work_61 : decode cX3_work 61 = .ok (.iload_n 2, 1) := by decide +kernel
theorem dX3_work_62 : decode cX3_work 62 = .ok (.iload_n 3, 1) := by decide +kernel
theorem dX3_work_63 : decode cX3_work 63 = .ok (.invokestatic 122, 3) := by decide +kernel
theorem dX3_work_66 : decode cX3_work 66 = .ok (.istore 7, 2) := by decide +kernel
theorem dX3_work_68 : decode cX3_work 68 = .ok (.aload_n 0, 1) := by decide +kernel
theorem dX3_work_69 : decode cX3_work 69 = .ok (.getfield 65, 3) := by decide +kernel
theorem dX3_work_72 : decode cX3_work 72 = .ok (.iconst 2, 1) := by decide +kernel
theorem dX3_work_73 : decode cX3_work 73 = .ok (.iload_n 1, 1) := by decide +kernel
theorem dX3_work_74 : decode cX3_work 74 = .ok (.bipush 8, 2) := by decide +kernel
theorem dX3_work_76 : decode cX3_work 76 = .ok (.if_icmp .ne 11, 3) := by decide +kernel
theorem dX3_work_79 : decode cX3_work 79 = .ok (.iload_n 3, 1) := by decide +kernel
theorem dX3_work_80 : decode cX3_work 80 = .ok (.ifCond .ne 7, 3) := by decide +kernel
theorem dX3_work_83 : decode cX3_work 83 = .ok (.iconst 4, 1) := by decide +kernel
theorem dX3_work_84 : decode cX3_work 84 = .ok (.goto 9, 3) := by decide +kernel
theorem dX3_work_87 : decode cX3_work 87 = .ok (.aload_n 0, 1) := by decide +kernel
theorem dX3_work_88 : decode cX3_work 88 = .ok (.getfield 65, 3) := by decide +kernel
theorem dX3_work_91 : decode cX3_work 91 = .ok (.iconst 2, 1) := by decide +kernel
theorem dX3_work_92 : decode cX3_work 92 = .ok (.iaload, 1) := by decide +kernel
theorem dX3_work_93 : decode cX3_work 93 = .ok (.iastore, 1) := by decide +kernel
theorem dX3_work_94 : decode cX3_work 94 = .ok (.goto 278, 3) := by decide +kernel
theorem dX3_work_97 : decode cX3_work 97 = .ok (.iload_n 1, 1) := by decide +kernel
theorem dX3_work_98 : decode cX3_work 98 = .ok (.bipush 9, 2) := by decide +kernel
theorem dX3_work_100 : decode cX3_work 100 = .ok (.if_icmp .eq 9, 3) := by decide +kernel
theorem dX3_work_103 : decode cX3_work 103 = .ok (.iload_n 1, 1) := by decide +kernel
theorem dX3_work_104 : decode cX3_work 104 = .ok (.bipush 10, 2) := by decide +kernel
theorem dX3_work_106 : decode cX3_work 106 = .ok (.if_icmp .ne 23, 3) := by decide +kernel
theorem dX3_work_109 : decode cX3_work 109 = .ok (.iload_n 1, 1) := by decide +kernel
theorem dX3_work_110 : decode cX3_work 110 = .ok (.bipush 10, 2) := by decide +kernel
theorem dX3_work_112 : decode cX3_work 112 = .ok (.if_icmp .ne 8, 3) := by decide +kernel
theorem dX3_work_115 : decode cX3_work 115 = .ok (.iload 5, 2) := by decide +kernel
theorem dX3_work_117 : decode cX3_work 117 = .ok (.goto 7, 3) := by decide +kernel
theorem dX3_work_120 : decode cX3_work 120 = .ok (.iload_n 2, 1) := by decide +kernel
theorem dX3_work_121 : decode cX3_work 121 = .ok (.iload 5, 2) := by decide +kernel
theorem dX3_work_123 : decode cX3_work 123 = .ok (.iadd, 1) := by decide +kernel
theorem dX3_work_124 : decode cX3_work 124 = .ok (.istore 7, 2) := by decide +kernel
theorem dX3_work_126 : decode cX3_work 126 = .ok (.goto 246, 3) := by decide +kernel
theorem dX3_work_129 : decode cX3_work 129 = .ok (.iload_n 1, 1) := by decide +kernel
theorem dX3_work_130 : decode cX3_work 130 = .ok (.bipush 11, 2) := by decide +kernel
theorem dX3_work_132 : decode cX3_work 132 = .ok (.if_icmp .eq 9, 3) := by decide +kernel
theorem dX3_work_135 : decode cX3_work 135 = .ok (.iload_n 1, 1) := by decide +kernel
theorem dX3_work_136 : decode cX3_work 136 = .ok (.bipush 12, 2) := by decide +kernel
theorem dX3_work_138 : decode cX3_work 138 = .ok (.if_icmp .ne 48, 3) := by decide +kernel
theorem dX3_work_141 : decode cX3_work 141 = .ok (.aload_n 0, 1) := by decide +kernel
theorem dX3_work_142 : decode cX3_work 142 = .ok (.getfield 62, 3) := by decide +kernel
theorem dX3_work_145 : decode cX3_work 145 = .ok (.iconst 2, 1) := by decide +kernel
theorem dX3_work_146 : decode cX3_work 146 = .ok (.iload_n 2, 1) := by decide +kernel
theorem dX3_work_147 : decode cX3_work 147 = .ok (.iload 5, 2) := by decide +kernel
theorem dX3_work_149 : decode cX3_work 149 = .ok (.iadd, 1) := by decide +kernel
theorem dX3_work_150 : decode cX3_work 150 = .ok (.iastore, 1) := by decide +kernel
theorem dX3_work_151 : decode cX3_work 151 = .ok (.iload_n 3, 1) := by decide +kernel
theorem dX3_work_152 : decode cX3_work 152 = .ok (.istore 7, 2) := by decide +kernel
theorem dX3_work_154 : decode cX3_work 154 = .ok (.aload_n 0, 1) := by decide +kernel
theorem dX3_work_155 : decode cX3_work 155 = .ok (.getfield 65, 3) := by decide +kernel
theorem dX3_work_158 : decode cX3_work 158 = .ok (.iconst 2, 1) := by decide +kernel
theorem dX3_work_159 : decode cX3_work 159 = .ok (.iload_n 2, 1) := by decide +kernel
theorem dX3_work_160 : decode cX3_work 160 = .ok (.iload 5, 2) := by decide +kernel
theorem dX3_work_162 : decode cX3_work 162 = .ok (.iadd, 1) := by decide +kernel
theorem dX3_work_163 : decode cX3_work 163 = .ok (.iconst 0, 1) := by decide +kernel
theorem dX3_work_164 : decode cX3_work 164 = .ok (.bipush 31, 2) := by decide +kernel
theorem dX3_work_166 : decode cX3_work 166 = .ok (.invokestatic 79, 3) := by decide +kernel
theorem dX3_work_169 : decode cX3_work 169 = .ok (.ifCond .eq 12, 3) := by decide +kernel
theorem dX3_work_172 : decode cX3_work 172 = .ok (.aload_n 0, 1) := by decide +kernel
theorem dX3_work_173 : decode cX3_work 173 = .ok (.getfield 65, 3) := by decide +kernel
theorem dX3_work_176 : decode cX3_work 176 = .ok (.iconst 2, 1) := by decide +kernel
theorem dX3_work_177 : decode cX3_work 177 = .ok (.iaload, 1) := by decide +kernel
theorem dX3_work_178 : decode cX3_work 178 = .ok (.goto 4, 3) := by decide +kernel
theorem dX3_work_181 : decode cX3_work 181 = .ok (.iconst 3, 1) := by decide +kernel
theorem dX3_work_182 : decode cX3_work 182 = .ok (.iastore, 1) := by decide +kernel
theorem dX3_work_183 : decode cX3_work 183 = .ok (.goto 189, 3) := by decide +kernel
theorem dX3_work_186 : decode cX3_work 186 = .ok (.iload_n 1, 1) := by decide +kernel
theorem dX3_work_187 : decode cX3_work 187 = .ok (.bipush 13, 2) := by decide +kernel
theorem dX3_work_189 : decode cX3_work 189 = .ok (.if_icmp .eq 9, 3) := by decide +kernel
theorem dX3_work_192 : decode cX3_work 192 = .ok (.iload_n 1, 1) := by decide +kernel
theorem dX3_work_193 : decode cX3_work 193 = .ok (.bipush 14, 2) := by decide +kernel
theorem dX3_work_195 : decode cX3_work 195 = .ok (.if_icmp .ne 123, 3) := by decide +kernel
theorem dX3_work_198 : decode cX3_work 198 = .ok (.iload_n 2, 1) := by decide +kernel
theorem dX3_work_199 : decode cX3_work 199 = .ok (.iload_n 3, 1) := by decide +kernel
theorem dX3_work_200 : decode cX3_work 200 = .ok (.if_icmp .ne 7, 3) := by decide +kernel
theorem dX3_work_203 : decode cX3_work 203 = .ok (.iconst 1, 1) := by decide +kernel
theorem dX3_work_204 : decode cX3_work 204 = .ok (.goto 4, 3) := by decide +kernel
theorem dX3_work_207 : decode cX3_work 207 = .ok (.iconst 0, 1) := by decide +kernel
theorem dX3_work_208 : decode cX3_work 208 = .ok (.iload_n 1, 1) := by decide +kernel
theorem dX3_work_209 : decode cX3_work 209 = .ok (.bipush 13, 2) := by decide +kernel
theorem dX3_work_211 : decode cX3_work 211 = .ok (.if_icmp .ne 7, 3) := by decide +kernel
theorem dX3_work_214 : decode cX3_work 214 = .ok (.iconst 1, 1) := by decide +kernel
theorem dX3_work_215 : decode cX3_work 215 = .ok (.goto 4, 3) := by decide +kernel
theorem dX3_work_218 : decode cX3_work 218 = .ok (.iconst 0, 1) := by decide +kernel
theorem dX3_work_219 : decode cX3_work 219 = .ok (.if_icmp .ne 7, 3) := by decide +kernel
theorem dX3_work_222 : decode cX3_work 222 = .ok (.iconst 1, 1) := by decide +kernel
theorem dX3_work_223 : decode cX3_work 223 = .ok (.goto 4, 3) := by decide +kernel
theorem dX3_work_226 : decode cX3_work 226 = .ok (.iconst 0, 1) := by decide +kernel
theorem dX3_work_227 : decode cX3_work 227 = .ok (.istore 8, 2) := by decide +kernel
theorem dX3_work_229 : decode cX3_work 229 = .ok (.iload 4, 2) := by decide +kernel
theorem dX3_work_231 : decode cX3_work 231 = .ok (.bipush 7, 2) := by decide +kernel
theorem dX3_work_233 : decode cX3_work 233 = .ok (.iand, 1) := by decide +kernel
theorem dX3_work_234 : decode cX3_work 234 = .ok (.istore 9, 2) := by decide +kernel
theorem dX3_work_236 : decode cX3_work 236 = .ok (.aload_n 0, 1) := by decide +kernel
theorem dX3_work_237 : decode cX3_work 237 = .ok (.getfield 31, 3) := by decide +kernel
theorem dX3_work_240 : decode cX3_work 240 = .ok (.iload 9, 2) := by decide +kernel
theorem dX3_work_242 : decode cX3_work 242 = .ok (.iload 8, 2) := by decide +kernel
theorem dX3_work_244 : decode cX3_work 244 = .ok (.ifCond .eq 30, 3) := by decide +kernel
theorem dX3_work_247 : decode cX3_work 247 = .ok (.aload_n 0, 1) := by decide +kernel
theorem dX3_work_248 : decode cX3_work 248 = .ok (.getfield 31, 3) := by decide +kernel
theorem dX3_work_251 : decode cX3_work 251 = .ok (.iload 9, 2) := by decide +kernel
theorem dX3_work_253 : decode cX3_work 253 = .ok (.iaload, 1) := by decide +kernel
theorem dX3_work_254 : decode cX3_work 254 = .ok (.iconst 3, 1) := by decide +kernel
theorem dX3_work_255 : decode cX3_work 255 = .ok (.if_icmp .ge 15, 3) := by decide +kernel
theorem dX3_work_258 : decode cX3_work 258 = .ok (.aload_n 0, 1) := by decide +kernel
theorem dX3_work_259 : decode cX3_work 259 = .ok (.getfield 31, 3) := by decide +kernel
theorem dX3_work_262 : decode cX3_work 262 = .ok (.iload 9, 2) := by decide +kernel
theorem dX3_work_264 : decode cX3_work 264 = .ok (.iaload, 1) := by decide +kernel
theorem dX3_work_265 : decode cX3_work 265 = .ok (.iconst 1, 1) := by decide +kernel
theorem dX3_work_266 : decode cX3_work 266 = .ok (.iadd, 1) := by decide +kernel
theorem dX3_work_267 : decode cX3_work 267 = .ok (.goto 30, 3) := by decide +kernel
theorem dX3_work_270 : decode cX3_work 270 = .ok (.iconst 3, 1) := by decide +kernel
theorem dX3_work_271 : decode cX3_work 271 = .ok (.goto 26, 3) := by decide +kernel
theorem dX3_work_274 : decode cX3_work 274 = .ok (.aload_n 0, 1) := by decide +kernel
theorem dX3_work_275 : decode cX3_work 275 = .ok (.getfield 31, 3) := by decide +kernel
theorem dX3_work_278 : decode cX3_work 278 = .ok (.iload 9, 2) := by decide +kernel
theorem dX3_work_280 : decode cX3_work 280 = .ok (.iaload, 1) := by decide +kernel
theorem dX3_work_281 : decode cX3_work 281 = .ok (.ifCond .le 15, 3) := by decide +kernel
theorem dX3_work_284 : decode cX3_work 284 = .ok (.aload_n 0, 1) := by decide +kernel
theorem dX3_work_285 : decode cX3_work 285 = .ok (.getfield 31, 3) := by decide +kernel
theorem dX3_work_288 : decode cX3_work 288 = .ok (.iload 9, 2) := by decide +kernel
theorem dX3_work_290 : decode cX3_work 290 = .ok (.iaload, 1) := by decide +kernel
theorem dX3_work_291 : decode cX3_work 291 = .ok (.iconst 1, 1) := by decide +kernel
theorem dX3_work_292 : decode cX3_work 292 = .ok (.isub, 1) := by decide +kernel
theorem dX3_work_293 : decode cX3_work 293 = .ok (.goto 4, 3) := by decide +kernel
theorem dX3_work_296 : decode cX3_work 296 = .ok (.iconst 0, 1) := by decide +kernel
theorem dX3_work_297 : decode cX3_work 297 = .ok (.iastore, 1) := by decide +kernel
theorem dX3_work_298 : decode cX3_work 298 = .ok (.iload 8, 2) := by decide +kernel
theorem dX3_work_300 : decode cX3_work 300 = .ok (.ifCond .eq 11, 3) := by decide +kernel
theorem dX3_work_303 : decode cX3_work 303 = .ok (.iload 4, 2) := by decide +kernel
theorem dX3_work_305 : decode cX3_work 305 = .ok (.iload 5, 2) := by decide +kernel
theorem dX3_work_307 : decode cX3_work 307 = .ok (.iadd, 1) := by decide +kernel
theorem dX3_work_308 : decode cX3_work 308 = .ok (.goto 5, 3) := by decide +kernel
theorem dX3_work_311 : decode cX3_work 311 = .ok (.iload 6, 2) := by decide +kernel
theorem dX3_work_313 : decode cX3_work 313 = .ok (.istore 6, 2) := by decide +kernel
theorem dX3_work_315 : decode cX3_work 315 = .ok (.goto 57, 3) := by decide +kernel
theorem dX3_work_318 : decode cX3_work 318 = .ok (.iload_n 1, 1) := by decide +kernel
theorem dX3_work_319 : decode cX3_work 319 = .ok (.bipush 15, 2) := by decide +kernel
theorem dX3_work_321 : decode cX3_work 321 = .ok (.if_icmp .eq 9, 3) := by decide +kernel
theorem dX3_work_324 : decode cX3_work 324 = .ok (.iload_n 1, 1) := by decide +kernel
theorem dX3_work_325 : decode cX3_work 325 = .ok (.bipush 16, 2) := by decide +kernel
theorem dX3_work_327 : decode cX3_work 327 = .ok (.if_icmp .ne 32, 3) := by decide +kernel
theorem dX3_work_330 : decode cX3_work 330 = .ok (.iload 4, 2) := by decide +kernel
theorem dX3_work_332 : decode cX3_work 332 = .ok (.iconst 1, 1) := by decide +kernel
theorem dX3_work_333 : decode cX3_work 333 = .ok (.iadd, 1) := by decide +kernel
theorem dX3_work_334 : decode cX3_work 334 = .ok (.istore 7, 2) := by decide +kernel
theorem dX3_work_336 : decode cX3_work 336 = .ok (.iload_n 1, 1) := by decide +kernel
theorem dX3_work_337 : decode cX3_work 337 = .ok (.bipush 15, 2) := by decide +kernel
theorem dX3_work_339 : decode cX3_work 339 = .ok (.if_icmp .ne 11, 3) := by decide +kernel
theorem dX3_work_342 : decode cX3_work 342 = .ok (.iload 4, 2) := by decide +kernel
theorem dX3_work_344 : decode cX3_work 344 = .ok (.iload 5, 2) := by decide +kernel
theorem dX3_work_346 : decode cX3_work 346 = .ok (.iadd, 1) := by decide +kernel
theorem dX3_work_347 : decode cX3_work 347 = .ok (.goto 7, 3) := by decide +kernel
theorem dX3_work_350 : decode cX3_work 350 = .ok (.iload_n 2, 1) := by decide +kernel
theorem dX3_work_351 : decode cX3_work 351 = .ok (.iload 5, 2) := by decide +kernel
theorem dX3_work_353 : decode cX3_work 353 = .ok (.iadd, 1) := by decide +kernel
theorem dX3_work_354 : decode cX3_work 354 = .ok (.istore 6, 2) := by decide +kernel
theorem dX3_work_356 : decode cX3_work 356 = .ok (.goto 16, 3) := by decide +kernel
theorem dX3_work_359 : decode cX3_work 359 = .ok (.iload_n 1, 1) := by decide +kernel
theorem dX3_work_360 : decode cX3_work 360 = .ok (.bipush 17, 2) := by decide +kernel
theorem dX3_work_362 : decode cX3_work 362 = .ok (.if_icmp .ne 10, 3) := by decide +kernel
theorem dX3_work_365 : decode cX3_work 365 = .ok (.aload_n 0, 1) := by decide +kernel
theorem dX3_work_366 : decode cX3_work 366 = .ok (.getfield 65, 3) := by decide +kernel
theorem dX3_work_369 : decode cX3_work 369 = .ok (.iconst 2, 1) := by decide +kernel
theorem dX3_work_370 : decode cX3_work 370 = .ok (.iconst 2, 1) := by decide +kernel
theorem dX3_work_371 : decode cX3_work 371 = .ok (.iastore, 1) := by decide +kernel
theorem dX3_work_372 : decode cX3_work 372 = .ok (.aload_n 0, 1) := by decide +kernel
theorem dX3_work_373 : decode cX3_work 373 = .ok (.getfield 59, 3) := by decide +kernel
theorem dX3_work_376 : decode cX3_work 376 = .ok (.iconst 2, 1) := by decide +kernel
theorem dX3_work_377 : decode cX3_work 377 = .ok (.iload 7, 2) := by decide +kernel
theorem dX3_work_379 : decode cX3_work 379 = .ok (.iastore, 1) := by decide +kernel
theorem dX3_work_380 : decode cX3_work 380 = .ok (.iload 6, 2) := by decide +kernel
theorem dX3_work_382 : decode cX3_work 382 = .ok (.ireturn, 1) := by decide +kernel
theorem dX3_reach_0 : decode cX3_reach 0 = .ok (.aload_n 0, 1) := by decide +kernel
theorem dX3_reach_1 : decode cX3_reach 1 = .ok (.getfield 34, 3) := by decide +kernel
theorem dX3_reach_4 : decode cX3_reach 4 = .ok (.iconst 2, 1) := by decide +kernel
theorem dX3_reach_5 : decode cX3_reach 5 = .ok (.baload, 1) := by decide +kernel
theorem dX3_reach_6 : decode cX3_reach 6 = .ok (.ifCond .ne 4, 3) := by decide +kernel
theorem dX3_reach_9 : decode cX3_reach 9 = .ok (.return_, 1) := by decide +kernel
theorem dX3_reach_10 : decode cX3_reach 10 = .ok (.aload_n 0, 1) := by decide +kernel
theorem dX3_reach_11 : decode cX3_reach 11 = .ok (.getfield 41, 3) := by decide +kernel
theorem dX3_reach_14 : decode cX3_reach 14 = .ok (.iconst 2, 1) := by decide +kernel
theorem dX3_reach_15 : decode cX3_reach 15 = .ok (.iaload, 1) := by decide +kernel
theorem dX3_reach_16 : decode cX3_reach 16 = .ok (.istore_n 2, 1) := by decide +kernel
theorem dX3_reach_17 : decode cX3_reach 17 = .ok (.iload_n 1, 1) := by decide +kernel
theorem dX3_reach_18 : decode cX3_reach 18 = .ok (.ifCond .eq 41, 3) := by decide +kernel
theorem dX3_reach_21 : decode cX3_reach 21 = .ok (.iload_n 2, 1) := by decide +kernel
theorem dX3_reach_22 : decode cX3_reach 22 = .ok (.invokestatic 126, 3) := by decide +kernel
theorem dX3_reach_25 : decode cX3_reach 25 = .ok (.ifCond .eq 13, 3) := by decide +kernel
theorem dX3_reach_28 : decode cX3_reach 28 = .ok (.aload_n 0, 1) := by decide +kernel
theorem dX3_reach_29 : decode cX3_reach 29 = .ok (.getfield 47, 3) := by decide +kernel
theorem dX3_reach_32 : decode cX3_reach 32 = .ok (.iconst 2, 1) := by decide +kernel
theorem dX3_reach_33 : decode cX3_reach 33 = .ok (.iaload, 1) := by decide +kernel
theorem dX3_reach_34 : decode cX3_reach 34 = .ok (.iload_n 1, 1) := by decide +kernel
theorem dX3_reach_35 : decode cX3_reach 35 = .ok (.if_icmp .eq 20, 3) := by decide +kernel
theorem dX3_reach_38 : decode cX3_reach 38 = .ok (.iload_n 2, 1) := by decide +kernel
theorem dX3_reach_39 : decode cX3_reach 39 = .ok (.invokestatic 129, 3) := by decide +kernel
theorem dX3_reach_42 : decode cX3_reach 42 = .ok (.ifCond .eq 17, 3) := by decide +kernel
theorem dX3_reach_45 : decode cX3_reach 45 = .ok (.aload_n 0, 1) := by decide +kernel
theorem dX3_reach_46 : decode cX3_reach 46 = .ok (.getfield 50, 3) := by decide +kernel
theorem dX3_reach_49 : decode cX3_reach 49 = .ok (.iconst 2, 1) := by decide +kernel
theorem dX3_reach_50 : decode cX3_reach 50 = .ok (.iaload, 1) := by decide +kernel
theorem dX3_reach_51 : decode cX3_reach 51 = .ok (.iload_n 1, 1) := by decide +kernel
theorem dX3_reach_52 : decode cX3_reach 52 = .ok (.if_icmp .ne 7, 3) := by decide +kernel
theorem dX3_reach_55 : decode cX3_reach 55 = .ok (.iconst 1, 1) := by decide +kernel
theorem dX3_reach_56 : decode cX3_reach 56 = .ok (.goto 4, 3) := by decide +kernel
theorem dX3_reach_59 : decode cX3_reach 59 = .ok (.iconst 0, 1) := by decide +kernel
theorem dX3_reach_60 : decode cX3_reach 60 = .ok (.istore_n 3, 1) := by decide +kernel
theorem dX3_reach_61 : decode cX3_reach 61 = .ok (.iload_n 3, 1) := by decide +kernel
theorem dX3_reach_62 : decode cX3_reach 62 = .ok (.ifCond .eq 14, 3) := by decide +kernel
theorem dX3_reach_65 : decode cX3_reach 65 = .ok (.aload_n 0, 1) := by decide +kernel
theorem dX3_reach_66 : decode cX3_reach 66 = .ok (.dup, 1) := by decide +kernel
theorem dX3_reach_67 : decode cX3_reach 67 = .ok (.getfield 132, 3) := by decide +kernel
theorem dX3_reach_70 : decode cX3_reach 70 = .ok (.iconst 1, 1) := by decide +kernel
theorem dX3_reach_71 : decode cX3_reach 71 = .ok (.iadd, 1) := by decide +kernel
theorem dX3_reach_72 : decode cX3_reach 72 = .ok (.putfield 132, 3) := by decide +kernel
theorem dX3_reach_75 : decode cX3_reach 75 = .ok (.return_, 1) := by decide +kernel
theorem dX3_reach_76 : decode cX3_reach 76 = .ok (.aload_n 0, 1) := by decide +kernel
theorem dX3_reach_77 : decode cX3_reach 77 = .ok (.dup, 1) := by decide +kernel
theorem dX3_reach_78 : decode cX3_reach 78 = .ok (.getfield 135, 3) := by decide +kernel
theorem dX3_reach_81 : decode cX3_reach 81 = .ok (.iconst 1, 1) := by decide +kernel
theorem dX3_reach_82 : decode cX3_reach 82 = .ok (.isub, 1) := by decide +kernel
theorem dX3_reach_83 : decode cX3_reach 83 = .ok (.putfield 135, 3) := by decide +kernel
theorem dX3_reach_86 : decode cX3_reach 86 = .ok (.aload_n 0, 1) := by decide +kernel
theorem dX3_reach_87 : decode cX3_reach 87 = .ok (.getfield 135, 3) := by decide +kernel
theorem dX3_reach_90 : decode cX3_reach 90 = .ok (.ifCond .le 14, 3) := by decide +kernel
theorem dX3_reach_93 : decode cX3_reach 93 = .ok (.aload_n 0, 1) := by decide +kernel
theorem dX3_reach_94 : decode cX3_reach 94 = .ok (.dup, 1) := by decide +kernel
theorem dX3_reach_95 : decode cX3_reach 95 = .ok (.getfield 132, 3) := by decide +kernel
theorem dX3_reach_98 : decode cX3_reach 98 = .ok (.iconst 1, 1) := by decide +kernel
theorem dX3_reach_99 : decode cX3_reach 99 = .ok (.iadd, 1) := by decide +kernel
theorem dX3_reach_100 : decode cX3_reach 100 = .ok (.putfield 132, 3) := by decide +kernel
theorem dX3_reach_103 : decode cX3_reach 103 = .ok (.return_, 1) := by decide +kernel
theorem dX3_reach_104 : decode cX3_reach 104 = .ok (.aload_n 0, 1) := by decide +kernel
theorem dX3_reach_105 : decode cX3_reach 105 = .ok (.invokevirtual 138, 3) := by decide +kernel
theorem dX3_reach_108 : decode cX3_reach 108 = .ok (.istore 4, 2) := by decide +kernel
theorem dX3_reach_110 : decode cX3_reach 110 = .ok (.aload_n 0, 1) := by decide +kernel
theorem dX3_reach_111 : decode cX3_reach 111 = .ok (.getfield 65, 3) := by decide +kernel
theorem dX3_reach_114 : decode cX3_reach 114 = .ok (.iconst 2, 1) := by decide +kernel
theorem dX3_reach_115 : decode cX3_reach 115 = .ok (.iaload, 1) := by decide +kernel
theorem dX3_reach_116 : decode cX3_reach 116 = .ok (.ifCond .ne 44, 3) := by decide +kernel
theorem dX3_reach_119 : decode cX3_reach 119 = .ok (.iload 4, 2) := by decide +kernel
theorem dX3_reach_121 : decode cX3_reach 121 = .ok (.aload_n 0, 1) := by decide +kernel
theorem dX3_reach_122 : decode cX3_reach 122 = .ok (.getfield 56, 3) := by decide +kernel
theorem dX3_reach_125 : decode cX3_reach 125 = .ok (.iconst 2, 1) := by decide +kernel
theorem dX3_reach_126 : decode cX3_reach 126 = .ok (.iaload, 1) := by decide +kernel
theorem dX3_reach_127 : decode cX3_reach 127 = .ok (.if_icmp .eq 33, 3) := by decide +kernel
theorem dX3_reach_130 : decode cX3_reach 130 = .ok (.aload_n 0, 1) := by decide +kernel
theorem dX3_reach_131 : decode cX3_reach 131 = .ok (.dup, 1) := by decide +kernel
theorem dX3_reach_132 : decode cX3_reach 132 = .ok (.getfield 142, 3) := by decide +kernel
theorem dX3_reach_135 : decode cX3_reach 135 = .ok (.iconst 1, 1) := by decide +kernel
theorem dX3_reach_136 : decode cX3_reach 136 = .ok (.iadd, 1) := by decide +kernel
theorem dX3_reach_137 : decode cX3_reach 137 = .ok (.putfield 142, 3) := by decide +kernel
theorem dX3_reach_140 : decode cX3_reach 140 = .ok (.aload_n 0, 1) := by decide +kernel
theorem dX3_reach_141 : decode cX3_reach 141 = .ok (.getfield 34, 3) := by decide +kernel
theorem dX3_reach_144 : decode cX3_reach 144 = .ok (.iconst 0, 1) := by decide +kernel
theorem dX3_reach_145 : decode cX3_reach 145 = .ok (.iconst 0, 1) := by decide +kernel
theorem dX3_reach_146 : decode cX3_reach 146 = .ok (.bastore, 1) := by decide +kernel
theorem dX3_reach_147 : decode cX3_reach 147 = .ok (.aload_n 0, 1) := by decide +kernel
theorem dX3_reach_148 : decode cX3_reach 148 = .ok (.getfield 34, 3) := by decide +kernel
theorem dX3_reach_151 : decode cX3_reach 151 = .ok (.iconst 1, 1) := by decide +kernel
theorem dX3_reach_152 : decode cX3_reach 152 = .ok (.iconst 0, 1) := by decide +kernel
theorem dX3_reach_153 : decode cX3_reach 153 = .ok (.bastore, 1) := by decide +kernel
theorem dX3_reach_154 : decode cX3_reach 154 = .ok (.aload_n 0, 1) := by decide +kernel
theorem dX3_reach_155 : decode cX3_reach 155 = .ok (.iload 4, 2) := by decide +kernel
theorem dX3_reach_157 : decode cX3_reach 157 = .ok (.putfield 85, 3) := by decide +kernel
theorem dX3_reach_160 : decode cX3_reach 160 = .ok (.aload_n 0, 1) := by decide +kernel
theorem dX3_reach_161 : decode cX3_reach 161 = .ok (.iconst 2, 1) := by decide +kernel
theorem dX3_reach_162 : decode cX3_reach 162 = .ok (.invokevirtual 114, 3) := by decide +kernel
theorem dX3_reach_165 : decode cX3_reach 165 = .ok (.return_, 1) := by decide +kernel
theorem dX3_fetch_0 : decode cX3_fetch 0 = .ok (.aload_n 0, 1) := by decide +kernel
theorem dX3_fetch_1 : decode cX3_fetch 1 = .ok (.getfield 85, 3) := by decide +kernel
theorem dX3_fetch_4 : decode cX3_fetch 4 = .ok (.iconst 0, 1) := by decide +kernel
theorem dX3_fetch_5 : decode cX3_fetch 5 = .ok (.bipush 63, 2) := by decide +kernel
theorem dX3_fetch_7 : decode cX3_fetch 7 = .ok (.invokestatic 79, 3) := by decide +kernel
theorem dX3_fetch_10 : decode cX3_fetch 10 = .ok (.istore_n 1, 1) := by decide +kernel
theorem dX3_fetch_11 : decode cX3_fetch 11 = .ok (.aload_n 0, 1) := by decide +kernel
theorem dX3_fetch_12 : decode cX3_fetch 12 = .ok (.getfield 34, 3) := by decide +kernel
theorem dX3_fetch_15 : decode cX3_fetch 15 = .ok (.iconst 0, 1) := by decide +kernel
theorem dX3_fetch_16 : decode cX3_fetch 16 = .ok (.iconst 1, 1) := by decide +kernel
theorem dX3_fetch_17 : decode cX3_fetch 17 = .ok (.bastore, 1) := by decide +kernel
theorem dX3_fetch_18 : decode cX3_fetch 18 = .ok (.aload_n 0, 1) := by decide +kernel
theorem dX3_fetch_19 : decode cX3_fetch 19 = .ok (.getfield 38, 3) := by decide +kernel
theorem dX3_fetch_22 : decode cX3_fetch 22 = .ok (.iconst 0, 1) := by decide +kernel
theorem dX3_fetch_23 : decode cX3_fetch 23 = .ok (.aload_n 0, 1) := by decide +kernel
theorem dX3_fetch_24 : decode cX3_fetch 24 = .ok (.getfield 85, 3) := by decide +kernel
theorem dX3_fetch_27 : decode cX3_fetch 27 = .ok (.iastore, 1) := by decide +kernel
theorem dX3_fetch_28 : decode cX3_fetch 28 = .ok (.aload_n 0, 1) := by decide +kernel
theorem dX3_fetch_29 : decode cX3_fetch 29 = .ok (.getfield 41, 3) := by decide +kernel
theorem dX3_fetch_32 : decode cX3_fetch 32 = .ok (.iconst 0, 1) := by decide +kernel
theorem dX3_fetch_33 : decode cX3_fetch 33 = .ok (.iload_n 1, 1) := by decide +kernel
theorem dX3_fetch_34 : decode cX3_fetch 34 = .ok (.ifCond .eq 15, 3) := by decide +kernel
theorem dX3_fetch_37 : decode cX3_fetch 37 = .ok (.aload_n 0, 1) := by decide +kernel
theorem dX3_fetch_38 : decode cX3_fetch 38 = .ok (.getfield 7, 3) := by decide +kernel
theorem dX3_fetch_41 : decode cX3_fetch 41 = .ok (.aload_n 0, 1) := by decide +kernel
theorem dX3_fetch_42 : decode cX3_fetch 42 = .ok (.getfield 85, 3) := by decide +kernel
theorem dX3_fetch_45 : decode cX3_fetch 45 = .ok (.iaload, 1) := by decide +kernel
theorem dX3_fetch_46 : decode cX3_fetch 46 = .ok (.goto 5, 3) := by decide +kernel
theorem dX3_fetch_49 : decode cX3_fetch 49 = .ok (.bipush 19, 2) := by decide +kernel
theorem dX3_fetch_51 : decode cX3_fetch 51 = .ok (.iastore, 1) := by decide +kernel
theorem dX3_fetch_52 : decode cX3_fetch 52 = .ok (.aload_n 0, 1) := by decide +kernel
theorem dX3_fetch_53 : decode cX3_fetch 53 = .ok (.getfield 44, 3) := by decide +kernel
theorem dX3_fetch_56 : decode cX3_fetch 56 = .ok (.iconst 0, 1) := by decide +kernel
theorem dX3_fetch_57 : decode cX3_fetch 57 = .ok (.iload_n 1, 1) := by decide +kernel
theorem dX3_fetch_58 : decode cX3_fetch 58 = .ok (.ifCond .eq 15, 3) := by decide +kernel
theorem dX3_fetch_61 : decode cX3_fetch 61 = .ok (.aload_n 0, 1) := by decide +kernel
theorem dX3_fetch_62 : decode cX3_fetch 62 = .ok (.getfield 13, 3) := by decide +kernel
theorem dX3_fetch_65 : decode cX3_fetch 65 = .ok (.aload_n 0, 1) := by decide +kernel
theorem dX3_fetch_66 : decode cX3_fetch 66 = .ok (.getfield 85, 3) := by decide +kernel
theorem dX3_fetch_69 : decode cX3_fetch 69 = .ok (.iaload, 1) := by decide +kernel
theorem dX3_fetch_70 : decode cX3_fetch 70 = .ok (.goto 4, 3) := by decide +kernel
theorem dX3_fetch_73 : decode cX3_fetch 73 = .ok (.iconst 0, 1) := by decide +kernel
theorem dX3_fetch_74 : decode cX3_fetch 74 = .ok (.iastore, 1) := by decide +kernel
theorem dX3_fetch_75 : decode cX3_fetch 75 = .ok (.aload_n 0, 1) := by decide +kernel
theorem dX3_fetch_76 : decode cX3_fetch 76 = .ok (.getfield 47, 3) := by decide +kernel
theorem dX3_fetch_79 : decode cX3_fetch 79 = .ok (.iconst 0, 1) := by decide +kernel
theorem dX3_fetch_80 : decode cX3_fetch 80 = .ok (.iload_n 1, 1) := by decide +kernel
theorem dX3_fetch_81 : decode cX3_fetch 81 = .ok (.ifCond .eq 15, 3) := by decide +kernel
theorem dX3_fetch_84 : decode cX3_fetch 84 = .ok (.aload_n 0, 1) := by decide +kernel
theorem dX3_fetch_85 : decode cX3_fetch 85 = .ok (.getfield 16, 3) := by decide +kernel
theorem dX3_fetch_88 : decode cX3_fetch 88 = .ok (.aload_n 0, 1) := by decide +kernel
theorem dX3_fetch_89 : decode cX3_fetch 89 = .ok (.getfield 85, 3) := by decide +kernel
theorem dX3_fetch_92 : decode cX3_fetch 92 = .ok (.iaload, 1) := by decide +kernel
theorem dX3_fetch_93 : decode cX3_fetch 93 = .ok (.goto 4, 3) := by decide +kernel
theorem dX3_fetch_96 : decode cX3_fetch 96 = .ok (.iconst 0, 1) := by decide +kernel
theorem dX3_fetch_97 : decode cX3_fetch 97 = .ok (.iastore, 1) := by decide +kernel
theorem dX3_fetch_98 : decode cX3_fetch 98 = .ok (.aload_n 0, 1) := by decide +kernel
theorem dX3_fetch_99 : decode cX3_fetch 99 = .ok (.getfield 50, 3) := by decide +kernel
theorem dX3_fetch_102 : decode cX3_fetch 102 = .ok (.iconst 0, 1) := by decide +kernel
theorem dX3_fetch_103 : decode cX3_fetch 103 = .ok (.iload_n 1, 1) := by decide +kernel
theorem dX3_fetch_104 : decode cX3_fetch 104 = .ok (.ifCond .eq 15, 3) := by decide +kernel
theorem dX3_fetch_107 : decode cX3_fetch 107 = .ok (.aload_n 0, 1) := by decide +kernel
theorem dX3_fetch_108 : decode cX3_fetch 108 = .ok (.getfield 19, 3) := by decide +kernel
theorem dX3_fetch_111 : decode cX3_fetch 111 = .ok (.aload_n 0, 1) := by decide +kernel
theorem dX3_fetch_112 : decode cX3_fetch 112 = .ok (.getfield 85, 3) := by decide +kernel
theorem dX3_fetch_115 : decode cX3_fetch 115 = .ok (.iaload, 1) := by decide +kernel
theorem dX3_fetch_116 : decode cX3_fetch 116 = .ok (.goto 4, 3) := by decide +kernel
theorem dX3_fetch_119 : decode cX3_fetch 119 = .ok (.iconst 0, 1) := by decide +kernel
theorem dX3_fetch_120 : decode cX3_fetch 120 = .ok (.iastore, 1) := by decide +kernel
theorem dX3_fetch_121 : decode cX3_fetch 121 = .ok (.aload_n 0, 1) := by decide +kernel
theorem dX3_fetch_122 : decode cX3_fetch 122 = .ok (.getfield 53, 3) := by decide +kernel
theorem dX3_fetch_125 : decode cX3_fetch 125 = .ok (.iconst 0, 1) := by decide +kernel
theorem dX3_fetch_126 : decode cX3_fetch 126 = .ok (.iload_n 1, 1) := by decide +kernel
theorem dX3_fetch_127 : decode cX3_fetch 127 = .ok (.ifCond .eq 15, 3) := by decide +kernel
theorem dX3_fetch_130 : decode cX3_fetch 130 = .ok (.aload_n 0, 1) := by decide +kernel
theorem dX3_fetch_131 : decode cX3_fetch 131 = .ok (.getfield 22, 3) := by decide +kernel
theorem dX3_fetch_134 : decode cX3_fetch 134 = .ok (.aload_n 0, 1) := by decide +kernel
theorem dX3_fetch_135 : decode cX3_fetch 135 = .ok (.getfield 85, 3) := by decide +kernel
theorem dX3_fetch_138 : decode cX3_fetch 138 = .ok (.iaload, 1) := by decide +kernel
theorem dX3_fetch_139 : decode cX3_fetch 139 = .ok (.goto 4, 3) := by decide +kernel
theorem dX3_fetch_142 : decode cX3_fetch 142 = .ok (.iconst 0, 1) := by decide +kernel
theorem dX3_fetch_143 : decode cX3_fetch 143 = .ok (.iastore, 1) := by decide +kernel
theorem dX3_fetch_144 : decode cX3_fetch 144 = .ok (.aload_n 0, 1) := by decide +kernel
theorem dX3_fetch_145 : decode cX3_fetch 145 = .ok (.getfield 65, 3) := by decide +kernel
theorem dX3_fetch_148 : decode cX3_fetch 148 = .ok (.iconst 0, 1) := by decide +kernel
theorem dX3_fetch_149 : decode cX3_fetch 149 = .ok (.iload_n 1, 1) := by decide +kernel
theorem dX3_fetch_150 : decode cX3_fetch 150 = .ok (.ifCond .eq 7, 3) := by decide +kernel
theorem dX3_fetch_153 : decode cX3_fetch 153 = .ok (.iconst 0, 1) := by decide +kernel
theorem dX3_fetch_154 : decode cX3_fetch 154 = .ok (.goto 4, 3) := by decide +kernel
theorem dX3_fetch_157 : decode cX3_fetch 157 = .ok (.iconst 1, 1) := by decide +kernel
theorem dX3_fetch_158 : decode cX3_fetch 158 = .ok (.iastore, 1) := by decide +kernel
theorem dX3_fetch_159 : decode cX3_fetch 159 = .ok (.aload_n 0, 1) := by decide +kernel
theorem dX3_fetch_160 : decode cX3_fetch 160 = .ok (.getfield 41, 3) := by decide +kernel
theorem dX3_fetch_163 : decode cX3_fetch 163 = .ok (.iconst 0, 1) := by decide +kernel
theorem dX3_fetch_164 : decode cX3_fetch 164 = .ok (.iaload, 1) := by decide +kernel
theorem dX3_fetch_165 : decode cX3_fetch 165 = .ok (.istore_n 2, 1) := by decide +kernel
theorem dX3_fetch_166 : decode cX3_fetch 166 = .ok (.iload_n 2, 1) := by decide +kernel
theorem dX3_fetch_167 : decode cX3_fetch 167 = .ok (.bipush 15, 2) := by decide +kernel
theorem dX3_fetch_169 : decode cX3_fetch 169 = .ok (.if_icmp .eq 31, 3) := by decide +kernel
theorem dX3_fetch_172 : decode cX3_fetch 172 = .ok (.iload_n 2, 1) := by decide +kernel
theorem dX3_fetch_173 : decode cX3_fetch 173 = .ok (.bipush 13, 2) := by decide +kernel
theorem dX3_fetch_175 : decode cX3_fetch 175 = .ok (.if_icmp .eq 9, 3) := by decide +kernel
theorem dX3_fetch_178 : decode cX3_fetch 178 = .ok (.iload_n 2, 1) := by decide +kernel
theorem dX3_fetch_179 : decode cX3_fetch 179 = .ok (.bipush 14, 2) := by decide +kernel
theorem dX3_fetch_181 : decode cX3_fetch 181 = .ok (.if_icmp .ne 23, 3) := by decide +kernel
theorem dX3_fetch_184 : decode cX3_fetch 184 = .ok (.aload_n 0, 1) := by decide +kernel
theorem dX3_fetch_185 : decode cX3_fetch 185 = .ok (.getfield 31, 3) := by decide +kernel
theorem dX3_fetch_188 : decode cX3_fetch 188 = .ok (.aload_n 0, 1) := by decide +kernel
theorem dX3_fetch_189 : decode cX3_fetch 189 = .ok (.getfield 85, 3) := by decide +kernel
theorem dX3_fetch_192 : decode cX3_fetch 192 = .ok (.bipush 7, 2) := by decide +kernel
theorem dX3_fetch_194 : decode cX3_fetch 194 = .ok (.iand, 1) := by decide +kernel
theorem dX3_fetch_195 : decode cX3_fetch 195 = .ok (.iaload, 1) := by decide +kernel
theorem dX3_fetch_196 : decode cX3_fetch 196 = .ok (.iconst 1, 1) := by decide +kernel
theorem dX3_fetch_197 : decode cX3_fetch 197 = .ok (.if_icmp .le 7, 3) := by decide +kernel
theorem dX3_fetch_200 : decode cX3_fetch 200 = .ok (.iconst 1, 1) := by decide +kernel
theorem dX3_fetch_201 : decode cX3_fetch 201 = .ok (.goto 4, 3) := by decide +kernel
theorem dX3_fetch_204 : decode cX3_fetch 204 = .ok (.iconst 0, 1) := by decide +kernel
theorem dX3_fetch_205 : decode cX3_fetch 205 = .ok (.istore_n 3, 1) := by decide +kernel
theorem dX3_fetch_206 : decode cX3_fetch 206 = .ok (.aload_n 0, 1) := by decide +kernel
theorem dX3_fetch_207 : decode cX3_fetch 207 = .ok (.iload_n 3, 1) := by decide +kernel
theorem dX3_fetch_208 : decode cX3_fetch 208 = .ok (.ifCond .eq 17, 3) := by decide +kernel
theorem dX3_fetch_211 : decode cX3_fetch 211 = .ok (.aload_n 0, 1) := by decide +kernel
theorem dX3_fetch_212 : decode cX3_fetch 212 = .ok (.getfield 85, 3) := by decide +kernel
theorem dX3_fetch_215 : decode cX3_fetch 215 = .ok (.aload_n 0, 1) := by decide +kernel
theorem dX3_fetch_216 : decode cX3_fetch 216 = .ok (.getfield 53, 3) := by decide +kernel
theorem dX3_fetch_219 : decode cX3_fetch 219 = .ok (.iconst 0, 1) := by decide +kernel
theorem dX3_fetch_220 : decode cX3_fetch 220 = .ok (.iaload, 1) := by decide +kernel
theorem dX3_fetch_221 : decode cX3_fetch 221 = .ok (.iadd, 1) := by decide +kernel
theorem dX3_fetch_222 : decode cX3_fetch 222 = .ok (.goto 9, 3) := by decide +kernel
theorem dX3_fetch_225 : decode cX3_fetch 225 = .ok (.aload_n 0, 1) := by decide +kernel
theorem dX3_fetch_226 : decode cX3_fetch 226 = .ok (.getfield 85, 3) := by decide +kernel
theorem dX3_fetch_229 : decode cX3_fetch 229 = .ok (.iconst 1, 1) := by decide +kernel
theorem dX3_fetch_230 : decode cX3_fetch 230 = .ok (.iadd, 1) := by decide +kernel
theorem dX3_fetch_231 : decode cX3_fetch 231 = .ok (.putfield 85, 3) := by decide +kernel
theorem dX3_fetch_234 : decode cX3_fetch 234 = .ok (.aload_n 0, 1) := by decide +kernel
theorem dX3_fetch_235 : decode cX3_fetch 235 = .ok (.getfield 56, 3) := by decide +kernel
theorem dX3_fetch_238 : decode cX3_fetch 238 = .ok (.iconst 0, 1) := by decide +kernel
theorem dX3_fetch_239 : decode cX3_fetch 239 = .ok (.aload_n 0, 1) := by decide +kernel
theorem dX3_fetch_240 : decode cX3_fetch 240 = .ok (.getfield 85, 3) := by decide +kernel
theorem dX3_fetch_243 : decode cX3_fetch 243 = .ok (.iastore, 1) := by decide +kernel
theorem dX3_fetch_244 : decode cX3_fetch 244 = .ok (.return_, 1) := by decide +kernel
theorem dX3_cycle_0 : decode cX3_cycle 0 = .ok (.aload_n 0, 1) := by decide +kernel
theorem dX3_cycle_1 : decode cX3_cycle 1 = .ok (.dup, 1) := by decide +kernel
theorem dX3_cycle_2 : decode cX3_cycle 2 = .ok (.getfield 145, 3) := by decide +kernel
theorem dX3_cycle_5 : decode cX3_cycle 5 = .ok (.iconst 1, 1) := by decide +kernel
theorem dX3_cycle_6 : decode cX3_cycle 6 = .ok (.iadd, 1) := by decide +kernel
theorem dX3_cycle_7 : decode cX3_cycle 7 = .ok (.putfield 145, 3) := by decide +kernel
theorem dX3_cycle_10 : decode cX3_cycle 10 = .ok (.aload_n 0, 1) := by decide +kernel
theorem dX3_cycle_11 : decode cX3_cycle 11 = .ok (.getfield 34, 3) := by decide +kernel
theorem dX3_cycle_14 : decode cX3_cycle 14 = .ok (.iconst 3, 1) := by decide +kernel
theorem dX3_cycle_15 : decode cX3_cycle 15 = .ok (.baload, 1) := by decide +kernel
theorem dX3_cycle_16 : decode cX3_cycle 16 = .ok (.ifCond .eq 32, 3) := by decide +kernel
theorem dX3_cycle_19 : decode cX3_cycle 19 = .ok (.aload_n 0, 1) := by decide +kernel
theorem dX3_cycle_20 : decode cX3_cycle 20 = .ok (.getfield 41, 3) := by decide +kernel
theorem dX3_cycle_23 : decode cX3_cycle 23 = .ok (.iconst 3, 1) := by decide +kernel
theorem dX3_cycle_24 : decode cX3_cycle 24 = .ok (.iaload, 1) := by decide +kernel
theorem dX3_cycle_25 : decode cX3_cycle 25 = .ok (.bipush 11, 2) := by decide +kernel
theorem dX3_cycle_27 : decode cX3_cycle 27 = .ok (.if_icmp .ne 21, 3) := by decide +kernel
theorem dX3_cycle_30 : decode cX3_cycle 30 = .ok (.aload_n 0, 1) := by decide +kernel
theorem dX3_cycle_31 : decode cX3_cycle 31 = .ok (.getfield 65, 3) := by decide +kernel
theorem dX3_cycle_34 : decode cX3_cycle 34 = .ok (.iconst 3, 1) := by decide +kernel
theorem dX3_cycle_35 : decode cX3_cycle 35 = .ok (.iaload, 1) := by decide +kernel
theorem dX3_cycle_36 : decode cX3_cycle 36 = .ok (.ifCond .ne 12, 3) := by decide +kernel
theorem dX3_cycle_39 : decode cX3_cycle 39 = .ok (.aload_n 0, 1) := by decide +kernel
theorem dX3_cycle_40 : decode cX3_cycle 40 = .ok (.getfield 44, 3) := by decide +kernel
theorem dX3_cycle_43 : decode cX3_cycle 43 = .ok (.iconst 3, 1) := by decide +kernel
theorem dX3_cycle_44 : decode cX3_cycle 44 = .ok (.iaload, 1) := by decide +kernel
theorem dX3_cycle_45 : decode cX3_cycle 45 = .ok (.goto 4, 3) := by decide +kernel
theorem dX3_cycle_48 : decode cX3_cycle 48 = .ok (.iconst 0, 1) := by decide +kernel
theorem dX3_cycle_49 : decode cX3_cycle 49 = .ok (.istore_n 1, 1) := by decide +kernel
theorem dX3_cycle_50 : decode cX3_cycle 50 = .ok (.aload_n 0, 1) := by decide +kernel
theorem dX3_cycle_51 : decode cX3_cycle 51 = .ok (.invokevirtual 148, 3) := by decide +kernel
theorem dX3_cycle_54 : decode cX3_cycle 54 = .ok (.ifCond .eq 4, 3) := by decide +kernel
theorem dX3_cycle_57 : decode cX3_cycle 57 = .ok (.return_, 1) := by decide +kernel
theorem dX3_cycle_58 : decode cX3_cycle 58 = .ok (.aload_n 0, 1) := by decide +kernel
theorem dX3_cycle_59 : decode cX3_cycle 59 = .ok (.invokevirtual 152, 3) := by decide +kernel
theorem dX3_cycle_62 : decode cX3_cycle 62 = .ok (.aload_n 0, 1) := by decide +kernel
theorem dX3_cycle_63 : decode cX3_cycle 63 = .ok (.iload_n 1, 1) := by decide +kernel
theorem dX3_cycle_64 : decode cX3_cycle 64 = .ok (.invokevirtual 155, 3) := by decide +kernel
theorem dX3_cycle_67 : decode cX3_cycle 67 = .ok (.aload_n 0, 1) := by decide +kernel
theorem dX3_cycle_68 : decode cX3_cycle 68 = .ok (.getfield 34, 3) := by decide +kernel
theorem dX3_cycle_71 : decode cX3_cycle 71 = .ok (.iconst 2, 1) := by decide +kernel
theorem dX3_cycle_72 : decode cX3_cycle 72 = .ok (.baload, 1) := by decide +kernel
theorem dX3_cycle_73 : decode cX3_cycle 73 = .ok (.ifCond .ne 53, 3) := by decide +kernel
theorem dX3_cycle_76 : decode cX3_cycle 76 = .ok (.aload_n 0, 1) := by decide +kernel
theorem dX3_cycle_77 : decode cX3_cycle 77 = .ok (.getfield 34, 3) := by decide +kernel
theorem dX3_cycle_80 : decode cX3_cycle 80 = .ok (.iconst 1, 1) := by decide +kernel
theorem dX3_cycle_81 : decode cX3_cycle 81 = .ok (.baload, 1) := by decide +kernel
theorem dX3_cycle_82 : decode cX3_cycle 82 = .ok (.ifCond .eq 44, 3) := by decide +kernel
theorem dX3_cycle_85 : decode cX3_cycle 85 = .ok (.aload_n 0, 1) := by decide +kernel
theorem dX3_cycle_86 : decode cX3_cycle 86 = .ok (.iconst 1, 1) := by decide +kernel
theorem dX3_cycle_87 : decode cX3_cycle 87 = .ok (.invokevirtual 114, 3) := by decide +kernel
theorem dX3_cycle_90 : decode cX3_cycle 90 = .ok (.aload_n 0, 1) := by decide +kernel
theorem dX3_cycle_91 : decode cX3_cycle 91 = .ok (.aload_n 0, 1) := by decide +kernel
theorem dX3_cycle_92 : decode cX3_cycle 92 = .ok (.getfield 41, 3) := by decide +kernel
theorem dX3_cycle_95 : decode cX3_cycle 95 = .ok (.iconst 2, 1) := by decide +kernel
theorem dX3_cycle_96 : decode cX3_cycle 96 = .ok (.iaload, 1) := by decide +kernel
theorem dX3_cycle_97 : decode cX3_cycle 97 = .ok (.bipush 7, 2) := by decide +kernel
theorem dX3_cycle_99 : decode cX3_cycle 99 = .ok (.if_icmp .ne 7, 3) := by decide +kernel
theorem dX3_cycle_102 : decode cX3_cycle 102 = .ok (.iconst 3, 1) := by decide +kernel
theorem dX3_cycle_103 : decode cX3_cycle 103 = .ok (.goto 20, 3) := by decide +kernel
theorem dX3_cycle_106 : decode cX3_cycle 106 = .ok (.aload_n 0, 1) := by decide +kernel
theorem dX3_cycle_107 : decode cX3_cycle 107 = .ok (.getfield 41, 3) := by decide +kernel
theorem dX3_cycle_110 : decode cX3_cycle 110 = .ok (.iconst 2, 1) := by decide +kernel
theorem dX3_cycle_111 : decode cX3_cycle 111 = .ok (.iaload, 1) := by decide +kernel
theorem dX3_cycle_112 : decode cX3_cycle 112 = .ok (.bipush 8, 2) := by decide +kernel
theorem dX3_cycle_114 : decode cX3_cycle 114 = .ok (.if_icmp .ne 8, 3) := by decide +kernel
theorem dX3_cycle_117 : decode cX3_cycle 117 = .ok (.bipush 6, 2) := by decide +kernel
theorem dX3_cycle_119 : decode cX3_cycle 119 = .ok (.goto 4, 3) := by decide +kernel
theorem dX3_cycle_122 : decode cX3_cycle 122 = .ok (.iconst 1, 1) := by decide +kernel
theorem dX3_cycle_123 : decode cX3_cycle 123 = .ok (.putfield 135, 3) := by decide +kernel
theorem dX3_cycle_126 : decode cX3_cycle 126 = .ok (.aload_n 0, 1) := by decide +kernel
theorem dX3_cycle_127 : decode cX3_cycle 127 = .ok (.getfield 34, 3) := by decide +kernel
theorem dX3_cycle_130 : decode cX3_cycle 130 = .ok (.iconst 1, 1) := by decide +kernel
theorem dX3_cycle_131 : decode cX3_cycle 131 = .ok (.baload, 1) := by decide +kernel
theorem dX3_cycle_132 : decode cX3_cycle 132 = .ok (.ifCond .ne 17, 3) := by decide +kernel
theorem dX3_cycle_135 : decode cX3_cycle 135 = .ok (.aload_n 0, 1) := by decide +kernel
theorem dX3_cycle_136 : decode cX3_cycle 136 = .ok (.getfield 34, 3) := by decide +kernel
theorem dX3_cycle_139 : decode cX3_cycle 139 = .ok (.iconst 0, 1) := by decide +kernel
theorem dX3_cycle_140 : decode cX3_cycle 140 = .ok (.baload, 1) := by decide +kernel
theorem dX3_cycle_141 : decode cX3_cycle 141 = .ok (.ifCond .eq 8, 3) := by decide +kernel
theorem dX3_cycle_144 : decode cX3_cycle 144 = .ok (.aload_n 0, 1) := by decide +kernel
theorem dX3_cycle_145 : decode cX3_cycle 145 = .ok (.iconst 0, 1) := by decide +kernel
theorem dX3_cycle_146 : decode cX3_cycle 146 = .ok (.invokevirtual 114, 3) := by decide +kernel
theorem dX3_cycle_149 : decode cX3_cycle 149 = .ok (.aload_n 0, 1) := by decide +kernel
theorem dX3_cycle_150 : decode cX3_cycle 150 = .ok (.getfield 34, 3) := by decide +kernel
theorem dX3_cycle_153 : decode cX3_cycle 153 = .ok (.iconst 0, 1) := by decide +kernel
theorem dX3_cycle_154 : decode cX3_cycle 154 = .ok (.baload, 1) := by decide +kernel
theorem dX3_cycle_155 : decode cX3_cycle 155 = .ok (.ifCond .ne 7, 3) := by decide +kernel
theorem dX3_cycle_158 : decode cX3_cycle 158 = .ok (.aload_n 0, 1) := by decide +kernel
theorem dX3_cycle_159 : decode cX3_cycle 159 = .ok (.invokevirtual 158, 3) := by decide +kernel
theorem dX3_cycle_162 : decode cX3_cycle 162 = .ok (.return_, 1) := by decide +kernel
theorem dX3_cycles_0 : decode cX3_cycles 0 = .ok (.aload_n 0, 1) := by decide +kernel
theorem dX3_cycles_1 : decode cX3_cycles 1 = .ok (.iload_n 1, 1) := by decide +kernel
theorem dX3_cycles_2 : decode cX3_cycles 2 = .ok (.iconst 1, 1) := by decide +kernel
theorem dX3_cycles_3 : decode cX3_cycles 3 = .ok (.sipush 300, 3) := by decide +kernel
theorem dX3_cycles_6 : decode cX3_cycles 6 = .ok (.invokevirtual 75, 3) := by decide +kernel
theorem dX3_cycles_9 : decode cX3_cycles 9 = .ok (.ifCond .eq 5, 3) := by decide +kernel
theorem dX3_cycles_12 : decode cX3_cycles 12 = .ok (.iconst 0, 1) := by decide +kernel
theorem dX3_cycles_13 : decode cX3_cycles 13 = .ok (.ireturn, 1) := by decide +kernel
theorem dX3_cycles_14 : decode cX3_cycles 14 = .ok (.aload_n 0, 1) := by decide +kernel
theorem dX3_cycles_15 : decode cX3_cycles 15 = .ok (.getfield 108, 3) := by decide +kernel
theorem dX3_cycles_18 : decode cX3_cycles 18 = .ok (.istore_n 2, 1) := by decide +kernel
theorem dX3_cycles_19 : decode cX3_cycles 19 = .ok (.iconst 0, 1) := by decide +kernel
theorem dX3_cycles_20 : decode cX3_cycles 20 = .ok (.istore_n 3, 1) := by decide +kernel
theorem dX3_cycles_21 : decode cX3_cycles 21 = .ok (.iload_n 3, 1) := by decide +kernel
theorem dX3_cycles_22 : decode cX3_cycles 22 = .ok (.iload_n 1, 1) := by decide +kernel
theorem dX3_cycles_23 : decode cX3_cycles 23 = .ok (.if_icmp .ge 20, 3) := by decide +kernel
theorem dX3_cycles_26 : decode cX3_cycles 26 = .ok (.aload_n 0, 1) := by decide +kernel
theorem dX3_cycles_27 : decode cX3_cycles 27 = .ok (.getfield 88, 3) := by decide +kernel
theorem dX3_cycles_30 : decode cX3_cycles 30 = .ok (.ifCond .ne 13, 3) := by decide +kernel
theorem dX3_cycles_33 : decode cX3_cycles 33 = .ok (.aload_n 0, 1) := by decide +kernel
theorem dX3_cycles_34 : decode cX3_cycles 34 = .ok (.invokevirtual 161, 3) := by decide +kernel
theorem dX3_cycles_37 : decode cX3_cycles 37 = .ok (.iinc 3 1, 3) := by decide +kernel
theorem dX3_cycles_40 : decode cX3_cycles 40 = .ok (.goto (-19), 3) := by decide +kernel
theorem dX3_cycles_43 : decode cX3_cycles 43 = .ok (.aload_n 0, 1) := by decide +kernel
theorem dX3_cycles_44 : decode cX3_cycles 44 = .ok (.getfield 108, 3) := by decide +kernel
theorem dX3_cycles_47 : decode cX3_cycles 47 = .ok (.iload_n 2, 1) := by decide +kernel
theorem dX3_cycles_48 : decode cX3_cycles 48 = .ok (.isub, 1) := by decide +kernel
theorem dX3_cycles_49 : decode cX3_cycles 49 = .ok (.ireturn, 1) := by decide +kernel
theorem dX3_stage_0 : decode cX3_stage 0 = .ok (.aload_n 0, 1) := by decide +kernel
theorem dX3_stage_1 : decode cX3_stage 1 = .ok (.iload_n 1, 1) := by decide +kernel
theorem dX3_stage_2 : decode cX3_stage 2 = .ok (.iconst 0, 1) := by decide +kernel
theorem dX3_stage_3 : decode cX3_stage 3 = .ok (.iconst 4, 1) := by decide +kernel
theorem dX3_stage_4 : decode cX3_stage 4 = .ok (.invokevirtual 75, 3) := by decide +kernel
theorem dX3_stage_7 : decode cX3_stage 7 = .ok (.ifCond .eq 5, 3) := by decide +kernel
theorem dX3_stage_10 : decode cX3_stage 10 = .ok (.iconst 0, 1) := by decide +kernel
theorem dX3_stage_11 : decode cX3_stage 11 = .ok (.ireturn, 1) := by decide +kernel
theorem dX3_stage_12 : decode cX3_stage 12 = .ok (.aload_n 0, 1) := by decide +kernel
theorem dX3_stage_13 : decode cX3_stage 13 = .ok (.getfield 34, 3) := by decide +kernel
theorem dX3_stage_16 : decode cX3_stage 16 = .ok (.iload_n 1, 1) := by decide +kernel
theorem dX3_stage_17 : decode cX3_stage 17 = .ok (.baload, 1) := by decide +kernel
theorem dX3_stage_18 : decode cX3_stage 18 = .ok (.ifCond .eq 12, 3) := by decide +kernel
theorem dX3_stage_21 : decode cX3_stage 21 = .ok (.aload_n 0, 1) := by decide +kernel
theorem dX3_stage_22 : decode cX3_stage 22 = .ok (.getfield 38, 3) := by decide +kernel
theorem dX3_stage_25 : decode cX3_stage 25 = .ok (.iload_n 1, 1) := by decide +kernel
theorem dX3_stage_26 : decode cX3_stage 26 = .ok (.iaload, 1) := by decide +kernel
theorem dX3_stage_27 : decode cX3_stage 27 = .ok (.goto 4, 3) := by decide +kernel
theorem dX3_stage_30 : decode cX3_stage 30 = .ok (.iconst (-1), 1) := by decide +kernel
theorem dX3_stage_31 : decode cX3_stage 31 = .ok (.ireturn, 1) := by decide +kernel
theorem dX3_counter_0 : decode cX3_counter 0 = .ok (.aload_n 0, 1) := by decide +kernel
theorem dX3_counter_1 : decode cX3_counter 1 = .ok (.iload_n 1, 1) := by decide +kernel
theorem dX3_counter_2 : decode cX3_counter 2 = .ok (.iconst 0, 1) := by decide +kernel
theorem dX3_counter_3 : decode cX3_counter 3 = .ok (.bipush 7, 2) := by decide +kernel
theorem dX3_counter_5 : decode cX3_counter 5 = .ok (.invokevirtual 75, 3) := by decide +kernel
theorem dX3_counter_8 : decode cX3_counter 8 = .ok (.ifCond .eq 7, 3) := by decide +kernel
theorem dX3_counter_11 : decode cX3_counter 11 = .ok (.iconst 0, 1) := by decide +kernel
theorem dX3_counter_12 : decode cX3_counter 12 = .ok (.goto 9, 3) := by decide +kernel
theorem dX3_counter_15 : decode cX3_counter 15 = .ok (.aload_n 0, 1) := by decide +kernel
theorem dX3_counter_16 : decode cX3_counter 16 = .ok (.getfield 31, 3) := by decide +kernel
theorem dX3_counter_19 : decode cX3_counter 19 = .ok (.iload_n 1, 1) := by decide +kernel
theorem dX3_counter_20 : decode cX3_counter 20 = .ok (.iaload, 1) := by decide +kernel
theorem dX3_counter_21 : decode cX3_counter 21 = .ok (.ireturn, 1) := by decide +kernel
theorem dX3_retired_0 : decode cX3_retired 0 = .ok (.aload_n 0, 1) := by decide +kernel
theorem dX3_retired_1 : decode cX3_retired 1 = .ok (.iload_n 1, 1) := by decide +kernel
theorem dX3_retired_2 : decode cX3_retired 2 = .ok (.iconst 0, 1) := by decide +kernel
theorem dX3_retired_3 : decode cX3_retired 3 = .ok (.aload_n 0, 1) := by decide +kernel
theorem dX3_retired_4 : decode cX3_retired 4 = .ok (.getfield 111, 3) := by decide +kernel
theorem dX3_retired_7 : decode cX3_retired 7 = .ok (.iconst 1, 1) := by decide +kernel
theorem dX3_retired_8 : decode cX3_retired 8 = .ok (.isub, 1) := by decide +kernel
theorem dX3_retired_9 : decode cX3_retired 9 = .ok (.invokevirtual 75, 3) := by decide +kernel
theorem dX3_retired_12 : decode cX3_retired 12 = .ok (.ifCond .eq 7, 3) := by decide +kernel
theorem dX3_retired_15 : decode cX3_retired 15 = .ok (.iconst 0, 1) := by decide +kernel
theorem dX3_retired_16 : decode cX3_retired 16 = .ok (.goto 9, 3) := by decide +kernel
theorem dX3_retired_19 : decode cX3_retired 19 = .ok (.aload_n 0, 1) := by decide +kernel
theorem dX3_retired_20 : decode cX3_retired 20 = .ok (.getfield 68, 3) := by decide +kernel
theorem dX3_retired_23 : decode cX3_retired 23 = .ok (.iload_n 1, 1) := by decide +kernel
theorem dX3_retired_24 : decode cX3_retired 24 = .ok (.iaload, 1) := by decide +kernel
theorem dX3_retired_25 : decode cX3_retired 25 = .ok (.ireturn, 1) := by decide +kernel
theorem dX3_count_0 : decode cX3_count 0 = .ok (.aload_n 0, 1) := by decide +kernel
theorem dX3_count_1 : decode cX3_count 1 = .ok (.iload_n 1, 1) := by decide +kernel
theorem dX3_count_2 : decode cX3_count 2 = .ok (.iconst 0, 1) := by decide +kernel
theorem dX3_count_3 : decode cX3_count 3 = .ok (.bipush 8, 2) := by decide +kernel
theorem dX3_count_5 : decode cX3_count 5 = .ok (.invokevirtual 75, 3) := by decide +kernel
theorem dX3_count_8 : decode cX3_count 8 = .ok (.ifCond .eq 5, 3) := by decide +kernel
theorem dX3_count_11 : decode cX3_count 11 = .ok (.iconst 0, 1) := by decide +kernel
theorem dX3_count_12 : decode cX3_count 12 = .ok (.ireturn, 1) := by decide +kernel
theorem dX3_count_13 : decode cX3_count 13 = .ok (.iload_n 1, 1) := by decide +kernel
theorem dX3_count_14 : decode cX3_count 14 = .ok (.tableswitch 86 0 7 #[46, 51, 56, 61, 66, 71, 76, 81], 46) := by decide +kernel
theorem dX3_count_60 : decode cX3_count 60 = .ok (.aload_n 0, 1) := by decide +kernel
theorem dX3_count_61 : decode cX3_count 61 = .ok (.getfield 145, 3) := by decide +kernel
theorem dX3_count_64 : decode cX3_count 64 = .ok (.ireturn, 1) := by decide +kernel
theorem dX3_count_65 : decode cX3_count 65 = .ok (.aload_n 0, 1) := by decide +kernel
theorem dX3_count_66 : decode cX3_count 66 = .ok (.getfield 108, 3) := by decide +kernel
theorem dX3_count_69 : decode cX3_count 69 = .ok (.ireturn, 1) := by decide +kernel
theorem dX3_count_70 : decode cX3_count 70 = .ok (.aload_n 0, 1) := by decide +kernel
theorem dX3_count_71 : decode cX3_count 71 = .ok (.getfield 132, 3) := by decide +kernel
theorem dX3_count_74 : decode cX3_count 74 = .ok (.ireturn, 1) := by decide +kernel
theorem dX3_count_75 : decode cX3_count 75 = .ok (.aload_n 0, 1) := by decide +kernel
theorem dX3_count_76 : decode cX3_count 76 = .ok (.getfield 142, 3) := by decide +kernel
theorem dX3_count_79 : decode cX3_count 79 = .ok (.ireturn, 1) := by decide +kernel
theorem dX3_count_80 : decode cX3_count 80 = .ok (.aload_n 0, 1) := by decide +kernel
theorem dX3_count_81 : decode cX3_count 81 = .ok (.getfield 95, 3) := by decide +kernel
theorem dX3_count_84 : decode cX3_count 84 = .ok (.ireturn, 1) := by decide +kernel
theorem dX3_count_85 : decode cX3_count 85 = .ok (.aload_n 0, 1) := by decide +kernel
theorem dX3_count_86 : decode cX3_count 86 = .ok (.getfield 85, 3) := by decide +kernel
theorem dX3_count_89 : decode cX3_count 89 = .ok (.ireturn, 1) := by decide +kernel
theorem dX3_count_90 : decode cX3_count 90 = .ok (.aload_n 0, 1) := by decide +kernel
theorem dX3_count_91 : decode cX3_count 91 = .ok (.getfield 98, 3) := by decide +kernel
theorem dX3_count_94 : decode cX3_count 94 = .ok (.ireturn, 1) := by decide +kernel
theorem dX3_count_95 : decode cX3_count 95 = .ok (.aload_n 0, 1) := by decide +kernel
theorem dX3_count_96 : decode cX3_count 96 = .ok (.getfield 101, 3) := by decide +kernel
theorem dX3_count_99 : decode cX3_count 99 = .ok (.ireturn, 1) := by decide +kernel
theorem dX3_count_100 : decode cX3_count 100 = .ok (.aload_n 0, 1) := by decide +kernel
theorem dX3_count_101 : decode cX3_count 101 = .ok (.getfield 88, 3) := by decide +kernel
theorem dX3_count_104 : decode cX3_count 104 = .ok (.ifCond .eq 7, 3) := by decide +kernel
theorem dX3_count_107 : decode cX3_count 107 = .ok (.iconst 1, 1) := by decide +kernel
theorem dX3_count_108 : decode cX3_count 108 = .ok (.goto 4, 3) := by decide +kernel
theorem dX3_count_111 : decode cX3_count 111 = .ok (.iconst 0, 1) := by decide +kernel
theorem dX3_count_112 : decode cX3_count 112 = .ok (.ireturn, 1) := by decide +kernel
theorem dX3_pace_0 : decode cX3_pace 0 = .ok (.aload_n 0, 1) := by decide +kernel
theorem dX3_pace_1 : decode cX3_pace 1 = .ok (.iconst 0, 1) := by decide +kernel
theorem dX3_pace_2 : decode cX3_pace 2 = .ok (.putfield 71, 3) := by decide +kernel
theorem dX3_pace_5 : decode cX3_pace 5 = .ok (.aload_n 0, 1) := by decide +kernel
theorem dX3_pace_6 : decode cX3_pace 6 = .ok (.getfield 108, 3) := by decide +kernel
theorem dX3_pace_9 : decode cX3_pace 9 = .ok (.ifCond .ne 5, 3) := by decide +kernel
theorem dX3_pace_12 : decode cX3_pace 12 = .ok (.fconst 0, 1) := by decide +kernel
theorem dX3_pace_13 : decode cX3_pace 13 = .ok (.freturn, 1) := by decide +kernel
theorem dX3_pace_14 : decode cX3_pace 14 = .ok (.aload_n 0, 1) := by decide +kernel
theorem dX3_pace_15 : decode cX3_pace 15 = .ok (.getfield 145, 3) := by decide +kernel
theorem dX3_pace_18 : decode cX3_pace 18 = .ok (.i2f, 1) := by decide +kernel
theorem dX3_pace_19 : decode cX3_pace 19 = .ok (.fstore_n 1, 1) := by decide +kernel
theorem dX3_pace_20 : decode cX3_pace 20 = .ok (.aload_n 0, 1) := by decide +kernel
theorem dX3_pace_21 : decode cX3_pace 21 = .ok (.getfield 108, 3) := by decide +kernel
theorem dX3_pace_24 : decode cX3_pace 24 = .ok (.i2f, 1) := by decide +kernel
theorem dX3_pace_25 : decode cX3_pace 25 = .ok (.fstore_n 2, 1) := by decide +kernel
theorem dX3_pace_26 : decode cX3_pace 26 = .ok (.fload_n 1, 1) := by decide +kernel
theorem dX3_pace_27 : decode cX3_pace 27 = .ok (.fload_n 2, 1) := by decide +kernel
theorem dX3_pace_28 : decode cX3_pace 28 = .ok (.fdiv, 1) := by decide +kernel
theorem dX3_pace_29 : decode cX3_pace 29 = .ok (.freturn, 1) := by decide +kernel
theorem dJ9_floorMod_7cf53_0 : decode cJ9_floorMod_7cf53 0 = .ok (.iload_n 0, 1) := by decide +kernel
theorem dJ9_floorMod_7cf53_1 : decode cJ9_floorMod_7cf53 1 = .ok (.iload_n 1, 1) := by decide +kernel
theorem dJ9_floorMod_7cf53_2 : decode cJ9_floorMod_7cf53 2 = .ok (.irem, 1) := by decide +kernel
theorem dJ9_floorMod_7cf53_3 : decode cJ9_floorMod_7cf53 3 = .ok (.istore_n 2, 1) := by decide +kernel
theorem dJ9_floorMod_7cf53_4 : decode cJ9_floorMod_7cf53 4 = .ok (.iload_n 0, 1) := by decide +kernel
theorem dJ9_floorMod_7cf53_5 : decode cJ9_floorMod_7cf53 5 = .ok (.iload_n 1, 1) := by decide +kernel
theorem dJ9_floorMod_7cf53_6 : decode cJ9_floorMod_7cf53 6 = .ok (.ixor, 1) := by decide +kernel
theorem dJ9_floorMod_7cf53_7 : decode cJ9_floorMod_7cf53 7 = .ok (.ifCond .ge 11, 3) := by decide +kernel
theorem dJ9_floorMod_7cf53_10 : decode cJ9_floorMod_7cf53 10 = .ok (.iload_n 2, 1) := by decide +kernel
theorem dJ9_floorMod_7cf53_11 : decode cJ9_floorMod_7cf53 11 = .ok (.ifCond .eq 7, 3) := by decide +kernel
theorem dJ9_floorMod_7cf53_14 : decode cJ9_floorMod_7cf53 14 = .ok (.iload_n 2, 1) := by decide +kernel
theorem dJ9_floorMod_7cf53_15 : decode cJ9_floorMod_7cf53 15 = .ok (.iload_n 1, 1) := by decide +kernel
theorem dJ9_floorMod_7cf53_16 : decode cJ9_floorMod_7cf53 16 = .ok (.iadd, 1) := by decide +kernel
theorem dJ9_floorMod_7cf53_17 : decode cJ9_floorMod_7cf53 17 = .ok (.ireturn, 1) := by decide +kernel
theorem dJ9_floorMod_7cf53_18 : decode cJ9_floorMod_7cf53 18 = .ok (.iload_n 2, 1) := by decide +kernel
theorem dJ9_floorMod_7cf53_19 : decode cJ9_floorMod_7cf53 19 = .ok (.ireturn, 1) := by decide +kernel
theorem dJ9_max_7cf53_0 : decode cJ9_max_7cf53 0 = .ok (.iload_n 0, 1) := by decide +kernel
theorem dJ9_max_7cf53_1 : decode cJ9_max_7cf53 1 = .ok (.iload_n 1, 1) := by decide +kernel
theorem dJ9_max_7cf53_2 : decode cJ9_max_7cf53 2 = .ok (.if_icmp .lt 7, 3) := by decide +kernel
theorem dJ9_max_7cf53_5 : decode cJ9_max_7cf53 5 = .ok (.iload_n 0, 1) := by decide +kernel
theorem dJ9_max_7cf53_6 : decode cJ9_max_7cf53 6 = .ok (.goto 4, 3) := by decide +kernel
theorem dJ9_max_7cf53_9 : decode cJ9_max_7cf53 9 = .ok (.iload_n 1, 1) := by decide +kernel
theorem dJ9_max_7cf53_10 : decode cJ9_max_7cf53 10 = .ok (.ireturn, 1) := by decide +kernel
theorem dJ9_min_7cf53_0 : decode cJ9_min_7cf53 0 = .ok (.iload_n 0, 1) := by decide +kernel
theorem dJ9_min_7cf53_1 : decode cJ9_min_7cf53 1 = .ok (.iload_n 1, 1) := by decide +kernel
theorem dJ9_min_7cf53_2 : decode cJ9_min_7cf53 2 = .ok (.if_icmp .gt 7, 3) := by decide +kernel
theorem dJ9_min_7cf53_5 : decode cJ9_min_7cf53 5 = .ok (.iload_n 0, 1) := by decide +kernel
theorem dJ9_min_7cf53_6 : decode cJ9_min_7cf53 6 = .ok (.goto 4, 3) := by decide +kernel
theorem dJ9_min_7cf53_9 : decode cJ9_min_7cf53 9 = .ok (.iload_n 1, 1) := by decide +kernel
theorem dJ9_min_7cf53_10 : decode cJ9_min_7cf53 10 = .ok (.ireturn, 1) := by decide +kernel
theorem dL_put_0 : decode cL_put 0 = .ok (.aload_n 0, 1) := by decide +kernel
theorem dL_put_1 : decode cL_put 1 = .ok (.iload_n 1, 1) := by decide +kernel
theorem dL_put_2 : decode cL_put 2 = .ok (.iload_n 2, 1) := by decide +kernel
theorem dL_put_3 : decode cL_put 3 = .ok (.iload_n 3, 1) := by decide +kernel
theorem dL_put_4 : decode cL_put 4 = .ok (.iload 4, 2) := by decide +kernel
theorem dL_put_6 : decode cL_put 6 = .ok (.iload 5, 2) := by decide +kernel
theorem dL_put_8 : decode cL_put 8 = .ok (.iload 6, 2) := by decide +kernel
theorem dL_put_10 : decode cL_put 10 = .ok (.invokevirtual 7, 3) := by decide +kernel
theorem dL_put_13 : decode cL_put 13 = .ok (.goto 11, 3) := by decide +kernel
theorem dL_put_16 : decode cL_put 16 = .ok (.astore 7, 2) := by decide +kernel
theorem dL_put_18 : decode cL_put 18 = .ok (.iconst 1, 1) := by decide +kernel
theorem dL_put_19 : decode cL_put 19 = .ok (.ireturn, 1) := by decide +kernel
theorem dL_put_20 : decode cL_put 20 = .ok (.astore 7, 2) := by decide +kernel
theorem dL_put_22 : decode cL_put 22 = .ok (.iconst 2, 1) := by decide +kernel
theorem dL_put_23 : decode cL_put 23 = .ok (.ireturn, 1) := by decide +kernel
theorem dL_put_24 : decode cL_put 24 = .ok (.iconst 0, 1) := by decide +kernel
theorem dL_put_25 : decode cL_put 25 = .ok (.ireturn, 1) := by decide +kernel
theorem dL_poke_0 : decode cL_poke 0 = .ok (.aload_n 3, 1) := by decide +kernel
theorem dL_poke_1 : decode cL_poke 1 = .ok (.iconst 0, 1) := by decide +kernel
theorem dL_poke_2 : decode cL_poke 2 = .ok (.aload_n 0, 1) := by decide +kernel
theorem dL_poke_3 : decode cL_poke 3 = .ok (.iload_n 1, 1) := by decide +kernel
theorem dL_poke_4 : decode cL_poke 4 = .ok (.iload_n 2, 1) := by decide +kernel
theorem dL_poke_5 : decode cL_poke 5 = .ok (.invokevirtual 17, 3) := by decide +kernel
theorem dL_poke_8 : decode cL_poke 8 = .ok (.i2l, 1) := by decide +kernel
theorem dL_poke_9 : decode cL_poke 9 = .ok (.lastore, 1) := by decide +kernel
theorem dL_poke_10 : decode cL_poke 10 = .ok (.goto 7, 3) := by decide +kernel
theorem dL_poke_13 : decode cL_poke 13 = .ok (.astore 4, 2) := by decide +kernel
theorem dL_poke_15 : decode cL_poke 15 = .ok (.iconst 1, 1) := by decide +kernel
theorem dL_poke_16 : decode cL_poke 16 = .ok (.ireturn, 1) := by decide +kernel
theorem dL_poke_17 : decode cL_poke 17 = .ok (.iconst 0, 1) := by decide +kernel
theorem dL_poke_18 : decode cL_poke 18 = .ok (.ireturn, 1) := by decide +kernel
theorem dL_peek_0 : decode cL_peek 0 = .ok (.aload_n 2, 1) := by decide +kernel
theorem dL_peek_1 : decode cL_peek 1 = .ok (.iconst 0, 1) := by decide +kernel
theorem dL_peek_2 : decode cL_peek 2 = .ok (.aload_n 0, 1) := by decide +kernel
theorem dL_peek_3 : decode cL_peek 3 = .ok (.iload_n 1, 1) := by decide +kernel
theorem dL_peek_4 : decode cL_peek 4 = .ok (.invokevirtual 21, 3) := by decide +kernel
theorem dL_peek_7 : decode cL_peek 7 = .ok (.i2l, 1) := by decide +kernel
theorem dL_peek_8 : decode cL_peek 8 = .ok (.lastore, 1) := by decide +kernel
theorem dL_peek_9 : decode cL_peek 9 = .ok (.goto 6, 3) := by decide +kernel
theorem dL_peek_12 : decode cL_peek 12 = .ok (.astore_n 3, 1) := by decide +kernel
theorem dL_peek_13 : decode cL_peek 13 = .ok (.iconst 1, 1) := by decide +kernel
theorem dL_peek_14 : decode cL_peek 14 = .ok (.ireturn, 1) := by decide +kernel
theorem dL_peek_15 : decode cL_peek 15 = .ok (.iconst 0, 1) := by decide +kernel
theorem dL_peek_16 : decode cL_peek 16 = .ok (.ireturn, 1) := by decide +kernel
theorem dL_set_0 : decode cL_set 0 = .ok (.aload_n 3, 1) := by decide +kernel
theorem dL_set_1 : decode cL_set 1 = .ok (.iconst 0, 1) := by decide +kernel
theorem dL_set_2 : decode cL_set 2 = .ok (.aload_n 0, 1) := by decide +kernel
theorem dL_set_3 : decode cL_set 3 = .ok (.iload_n 1, 1) := by decide +kernel
theorem dL_set_4 : decode cL_set 4 = .ok (.iload_n 2, 1) := by decide +kernel
theorem dL_set_5 : decode cL_set 5 = .ok (.invokevirtual 25, 3) := by decide +kernel
theorem dL_set_8 : decode cL_set 8 = .ok (.i2l, 1) := by decide +kernel
theorem dL_set_9 : decode cL_set 9 = .ok (.lastore, 1) := by decide +kernel
theorem dL_set_10 : decode cL_set 10 = .ok (.goto 7, 3) := by decide +kernel
theorem dL_set_13 : decode cL_set 13 = .ok (.astore 4, 2) := by decide +kernel
theorem dL_set_15 : decode cL_set 15 = .ok (.iconst 1, 1) := by decide +kernel
theorem dL_set_16 : decode cL_set 16 = .ok (.ireturn, 1) := by decide +kernel
theorem dL_set_17 : decode cL_set 17 = .ok (.iconst 0, 1) := by decide +kernel
theorem dL_set_18 : decode cL_set 18 = .ok (.ireturn, 1) := by decide +kernel
theorem dL_register_0 : decode cL_register 0 = .ok (.aload_n 2, 1) := by decide +kernel
theorem dL_register_1 : decode cL_register 1 = .ok (.iconst 0, 1) := by decide +kernel
theorem dL_register_2 : decode cL_register 2 = .ok (.aload_n 0, 1) := by decide +kernel
theorem dL_register_3 : decode cL_register 3 = .ok (.iload_n 1, 1) := by decide +kernel
theorem dL_register_4 : decode cL_register 4 = .ok (.invokevirtual 28, 3) := by decide +kernel
theorem dL_register_7 : decode cL_register 7 = .ok (.i2l, 1) := by decide +kernel
theorem dL_register_8 : decode cL_register 8 = .ok (.lastore, 1) := by decide +kernel
theorem dL_register_9 : decode cL_register 9 = .ok (.goto 6, 3) := by decide +kernel
theorem dL_register_12 : decode cL_register 12 = .ok (.astore_n 3, 1) := by decide +kernel
theorem dL_register_13 : decode cL_register 13 = .ok (.iconst 1, 1) := by decide +kernel
theorem dL_register_14 : decode cL_register 14 = .ok (.ireturn, 1) := by decide +kernel
theorem dL_register_15 : decode cL_register 15 = .ok (.iconst 0, 1) := by decide +kernel
theorem dL_register_16 : decode cL_register 16 = .ok (.ireturn, 1) := by decide +kernel
theorem dL_start_0 : decode cL_start 0 = .ok (.aload_n 0, 1) := by decide +kernel
theorem dL_start_1 : decode cL_start 1 = .ok (.iload_n 1, 1) := by decide +kernel
theorem dL_start_2 : decode cL_start 2 = .ok (.invokevirtual 31, 3) := by decide +kernel
theorem dL_start_5 : decode cL_start 5 = .ok (.goto 6, 3) := by decide +kernel
theorem dL_start_8 : decode cL_start 8 = .ok (.astore_n 2, 1) := by decide +kernel
theorem dL_start_9 : decode cL_start 9 = .ok (.iconst 1, 1) := by decide +kernel
theorem dL_start_10 : decode cL_start 10 = .ok (.ireturn, 1) := by decide +kernel
theorem dL_start_11 : decode cL_start 11 = .ok (.iconst 0, 1) := by decide +kernel
theorem dL_start_12 : decode cL_start 12 = .ok (.ireturn, 1) := by decide +kernel
theorem dL_handler_0 : decode cL_handler 0 = .ok (.aload_n 2, 1) := by decide +kernel
theorem dL_handler_1 : decode cL_handler 1 = .ok (.iconst 0, 1) := by decide +kernel
theorem dL_handler_2 : decode cL_handler 2 = .ok (.aload_n 0, 1) := by decide +kernel
theorem dL_handler_3 : decode cL_handler 3 = .ok (.iload_n 1, 1) := by decide +kernel
theorem dL_handler_4 : decode cL_handler 4 = .ok (.invokevirtual 35, 3) := by decide +kernel
theorem dL_handler_7 : decode cL_handler 7 = .ok (.i2l, 1) := by decide +kernel
theorem dL_handler_8 : decode cL_handler 8 = .ok (.lastore, 1) := by decide +kernel
theorem dL_handler_9 : decode cL_handler 9 = .ok (.goto 6, 3) := by decide +kernel
theorem dL_handler_12 : decode cL_handler 12 = .ok (.astore_n 3, 1) := by decide +kernel
theorem dL_handler_13 : decode cL_handler 13 = .ok (.iconst 1, 1) := by decide +kernel
theorem dL_handler_14 : decode cL_handler 14 = .ok (.ireturn, 1) := by decide +kernel
theorem dL_handler_15 : decode cL_handler 15 = .ok (.iconst 0, 1) := by decide +kernel
theorem dL_handler_16 : decode cL_handler 16 = .ok (.ireturn, 1) := by decide +kernel
theorem dL_cycles_0 : decode cL_cycles 0 = .ok (.aload_n 2, 1) := by decide +kernel
theorem dL_cycles_1 : decode cL_cycles 1 = .ok (.iconst 0, 1) := by decide +kernel
theorem dL_cycles_2 : decode cL_cycles 2 = .ok (.aload_n 0, 1) := by decide +kernel
theorem dL_cycles_3 : decode cL_cycles 3 = .ok (.iload_n 1, 1) := by decide +kernel
theorem dL_cycles_4 : decode cL_cycles 4 = .ok (.invokevirtual 38, 3) := by decide +kernel
theorem dL_cycles_7 : decode cL_cycles 7 = .ok (.i2l, 1) := by decide +kernel
theorem dL_cycles_8 : decode cL_cycles 8 = .ok (.lastore, 1) := by decide +kernel
theorem dL_cycles_9 : decode cL_cycles 9 = .ok (.goto 6, 3) := by decide +kernel
theorem dL_cycles_12 : decode cL_cycles 12 = .ok (.astore_n 3, 1) := by decide +kernel
theorem dL_cycles_13 : decode cL_cycles 13 = .ok (.iconst 1, 1) := by decide +kernel
theorem dL_cycles_14 : decode cL_cycles 14 = .ok (.ireturn, 1) := by decide +kernel
theorem dL_cycles_15 : decode cL_cycles 15 = .ok (.iconst 0, 1) := by decide +kernel
theorem dL_cycles_16 : decode cL_cycles 16 = .ok (.ireturn, 1) := by decide +kernel
theorem dL_stage_0 : decode cL_stage 0 = .ok (.aload_n 2, 1) := by decide +kernel
theorem dL_stage_1 : decode cL_stage 1 = .ok (.iconst 0, 1) := by decide +kernel
theorem dL_stage_2 : decode cL_stage 2 = .ok (.aload_n 0, 1) := by decide +kernel
theorem dL_stage_3 : decode cL_stage 3 = .ok (.iload_n 1, 1) := by decide +kernel
theorem dL_stage_4 : decode cL_stage 4 = .ok (.invokevirtual 41, 3) := by decide +kernel
theorem dL_stage_7 : decode cL_stage 7 = .ok (.i2l, 1) := by decide +kernel
theorem dL_stage_8 : decode cL_stage 8 = .ok (.lastore, 1) := by decide +kernel
theorem dL_stage_9 : decode cL_stage 9 = .ok (.goto 6, 3) := by decide +kernel
theorem dL_stage_12 : decode cL_stage 12 = .ok (.astore_n 3, 1) := by decide +kernel
theorem dL_stage_13 : decode cL_stage 13 = .ok (.iconst 1, 1) := by decide +kernel
theorem dL_stage_14 : decode cL_stage 14 = .ok (.ireturn, 1) := by decide +kernel
theorem dL_stage_15 : decode cL_stage 15 = .ok (.iconst 0, 1) := by decide +kernel
theorem dL_stage_16 : decode cL_stage 16 = .ok (.ireturn, 1) := by decide +kernel
theorem dL_counter_0 : decode cL_counter 0 = .ok (.aload_n 2, 1) := by decide +kernel
theorem dL_counter_1 : decode cL_counter 1 = .ok (.iconst 0, 1) := by decide +kernel
theorem dL_counter_2 : decode cL_counter 2 = .ok (.aload_n 0, 1) := by decide +kernel
theorem dL_counter_3 : decode cL_counter 3 = .ok (.iload_n 1, 1) := by decide +kernel
theorem dL_counter_4 : decode cL_counter 4 = .ok (.invokevirtual 44, 3) := by decide +kernel
theorem dL_counter_7 : decode cL_counter 7 = .ok (.i2l, 1) := by decide +kernel
theorem dL_counter_8 : decode cL_counter 8 = .ok (.lastore, 1) := by decide +kernel
theorem dL_counter_9 : decode cL_counter 9 = .ok (.goto 6, 3) := by decide +kernel
theorem dL_counter_12 : decode cL_counter 12 = .ok (.astore_n 3, 1) := by decide +kernel
theorem dL_counter_13 : decode cL_counter 13 = .ok (.iconst 1, 1) := by decide +kernel
theorem dL_counter_14 : decode cL_counter 14 = .ok (.ireturn, 1) := by decide +kernel
theorem dL_counter_15 : decode cL_counter 15 = .ok (.iconst 0, 1) := by decide +kernel
theorem dL_counter_16 : decode cL_counter 16 = .ok (.ireturn, 1) := by decide +kernel
theorem dL_retired_0 : decode cL_retired 0 = .ok (.aload_n 2, 1) := by decide +kernel
theorem dL_retired_1 : decode cL_retired 1 = .ok (.iconst 0, 1) := by decide +kernel
theorem dL_retired_2 : decode cL_retired 2 = .ok (.aload_n 0, 1) := by decide +kernel
theorem dL_retired_3 : decode cL_retired 3 = .ok (.iload_n 1, 1) := by decide +kernel
theorem dL_retired_4 : decode cL_retired 4 = .ok (.invokevirtual 47, 3) := by decide +kernel
theorem dL_retired_7 : decode cL_retired 7 = .ok (.i2l, 1) := by decide +kernel
theorem dL_retired_8 : decode cL_retired 8 = .ok (.lastore, 1) := by decide +kernel
theorem dL_retired_9 : decode cL_retired 9 = .ok (.goto 6, 3) := by decide +kernel
theorem dL_retired_12 : decode cL_retired 12 = .ok (.astore_n 3, 1) := by decide +kernel
theorem dL_retired_13 : decode cL_retired 13 = .ok (.iconst 1, 1) := by decide +kernel
theorem dL_retired_14 : decode cL_retired 14 = .ok (.ireturn, 1) := by decide +kernel
theorem dL_retired_15 : decode cL_retired 15 = .ok (.iconst 0, 1) := by decide +kernel
theorem dL_retired_16 : decode cL_retired 16 = .ok (.ireturn, 1) := by decide +kernel
theorem dL_count_0 : decode cL_count 0 = .ok (.aload_n 2, 1) := by decide +kernel
theorem dL_count_1 : decode cL_count 1 = .ok (.iconst 0, 1) := by decide +kernel
theorem dL_count_2 : decode cL_count 2 = .ok (.aload_n 0, 1) := by decide +kernel
theorem dL_count_3 : decode cL_count 3 = .ok (.iload_n 1, 1) := by decide +kernel
theorem dL_count_4 : decode cL_count 4 = .ok (.invokevirtual 50, 3) := by decide +kernel
theorem dL_count_7 : decode cL_count 7 = .ok (.i2l, 1) := by decide +kernel
theorem dL_count_8 : decode cL_count 8 = .ok (.lastore, 1) := by decide +kernel
theorem dL_count_9 : decode cL_count 9 = .ok (.goto 6, 3) := by decide +kernel
theorem dL_count_12 : decode cL_count 12 = .ok (.astore_n 3, 1) := by decide +kernel
theorem dL_count_13 : decode cL_count 13 = .ok (.iconst 1, 1) := by decide +kernel
theorem dL_count_14 : decode cL_count 14 = .ok (.ireturn, 1) := by decide +kernel
theorem dL_count_15 : decode cL_count 15 = .ok (.iconst 0, 1) := by decide +kernel
theorem dL_count_16 : decode cL_count 16 = .ok (.ireturn, 1) := by decide +kernel
theorem dL_law_0 : decode cL_law 0 = .ok (.new 8, 3) := by decide +kernel
theorem dL_law_3 : decode cL_law 3 = .ok (.dup, 1) := by decide +kernel
theorem dL_law_4 : decode cL_law 4 = .ok (.invokespecial 53, 3) := by decide +kernel
theorem dL_law_7 : decode cL_law 7 = .ok (.astore_n 1, 1) := by decide +kernel
theorem dL_law_8 : decode cL_law 8 = .ok (.new 54, 3) := by decide +kernel
theorem dL_law_11 : decode cL_law 11 = .ok (.dup, 1) := by decide +kernel
theorem dL_law_12 : decode cL_law 12 = .ok (.invokespecial 56, 3) := by decide +kernel
theorem dL_law_15 : decode cL_law 15 = .ok (.astore_n 2, 1) := by decide +kernel
theorem dL_law_16 : decode cL_law 16 = .ok (.iconst 1, 1) := by decide +kernel
theorem dL_law_17 : decode cL_law 17 = .ok (.newarray .long, 2) := by decide +kernel
theorem dL_law_19 : decode cL_law 19 = .ok (.astore_n 3, 1) := by decide +kernel
theorem dL_law_20 : decode cL_law 20 = .ok (.iconst 0, 1) := by decide +kernel
theorem dL_law_21 : decode cL_law 21 = .ok (.istore 4, 2) := by decide +kernel
theorem dL_law_23 : decode cL_law 23 = .ok (.iload 4, 2) := by decide +kernel
theorem dL_law_25 : decode cL_law 25 = .ok (.aload_n 0, 1) := by decide +kernel
theorem dL_law_26 : decode cL_law 26 = .ok (.arraylength, 1) := by decide +kernel
theorem dL_law_27 : decode cL_law 27 = .ok (.bipush 7, 2) := by decide +kernel
theorem dL_law_29 : decode cL_law 29 = .ok (.isub, 1) := by decide +kernel
theorem dL_law_30 : decode cL_law 30 = .ok (.if_icmp .gt 845, 3) := by decide +kernel
theorem dL_law_33 : decode cL_law 33 = .ok (.aload_n 0, 1) := by decide +kernel
theorem dL_law_34 : decode cL_law 34 = .ok (.iload 4, 2) := by decide +kernel
theorem dL_law_36 : decode cL_law 36 = .ok (.iaload, 1) := by decide +kernel
theorem dL_law_37 : decode cL_law 37 = .ok (.bipush 15, 2) := by decide +kernel
theorem dL_law_39 : decode cL_law 39 = .ok (.iand, 1) := by decide +kernel
theorem dL_law_40 : decode cL_law 40 = .ok (.tableswitch 829 0 12 #[68, 166, 234, 290, 358, 414, 450, 506, 562, 618, 674, 730, 786], 68) := by decide +kernel
theorem dL_law_108 : decode cL_law 108 = .ok (.aload_n 1, 1) := by decide +kernel
theorem dL_law_109 : decode cL_law 109 = .ok (.aload_n 0, 1) := by decide +kernel
theorem dL_law_110 : decode cL_law 110 = .ok (.iload 4, 2) := by decide +kernel
theorem dL_law_112 : decode cL_law 112 = .ok (.iconst 1, 1) := by decide +kernel
theorem dL_law_113 : decode cL_law 113 = .ok (.iadd, 1) := by decide +kernel
theorem dL_law_114 : decode cL_law 114 = .ok (.iaload, 1) := by decide +kernel
theorem dL_law_115 : decode cL_law 115 = .ok (.aload_n 0, 1) := by decide +kernel
theorem dL_law_116 : decode cL_law 116 = .ok (.iload 4, 2) := by decide +kernel
theorem dL_law_118 : decode cL_law 118 = .ok (.iconst 2, 1) := by decide +kernel
theorem dL_law_119 : decode cL_law 119 = .ok (.iadd, 1) := by decide +kernel
theorem dL_law_120 : decode cL_law 120 = .ok (.iaload, 1) := by decide +kernel
theorem dL_law_121 : decode cL_law 121 = .ok (.aload_n 0, 1) := by decide +kernel
theorem dL_law_122 : decode cL_law 122 = .ok (.iload 4, 2) := by decide +kernel
theorem dL_law_124 : decode cL_law 124 = .ok (.iconst 3, 1) := by decide +kernel
theorem dL_law_125 : decode cL_law 125 = .ok (.iadd, 1) := by decide +kernel
theorem dL_law_126 : decode cL_law 126 = .ok (.iaload, 1) := by decide +kernel
theorem dL_law_127 : decode cL_law 127 = .ok (.aload_n 0, 1) := by decide +kernel
theorem dL_law_128 : decode cL_law 128 = .ok (.iload 4, 2) := by decide +kernel
theorem dL_law_130 : decode cL_law 130 = .ok (.iconst 4, 1) := by decide +kernel
theorem dL_law_131 : decode cL_law 131 = .ok (.iadd, 1) := by decide +kernel
theorem dL_law_132 : decode cL_law 132 = .ok (.iaload, 1) := by decide +kernel
theorem dL_law_133 : decode cL_law 133 = .ok (.aload_n 0, 1) := by decide +kernel
theorem dL_law_134 : decode cL_law 134 = .ok (.iload 4, 2) := by decide +kernel
theorem dL_law_136 : decode cL_law 136 = .ok (.iconst 5, 1) := by decide +kernel
theorem dL_law_137 : decode cL_law 137 = .ok (.iadd, 1) := by decide +kernel
theorem dL_law_138 : decode cL_law 138 = .ok (.iaload, 1) := by decide +kernel
theorem dL_law_139 : decode cL_law 139 = .ok (.aload_n 0, 1) := by decide +kernel
theorem dL_law_140 : decode cL_law 140 = .ok (.iload 4, 2) := by decide +kernel
theorem dL_law_142 : decode cL_law 142 = .ok (.bipush 6, 2) := by decide +kernel
theorem dL_law_144 : decode cL_law 144 = .ok (.iadd, 1) := by decide +kernel
theorem dL_law_145 : decode cL_law 145 = .ok (.iaload, 1) := by decide +kernel
theorem dL_law_146 : decode cL_law 146 = .ok (.invokestatic 57, 3) := by decide +kernel
theorem dL_law_149 : decode cL_law 149 = .ok (.istore 5, 2) := by decide +kernel
theorem dL_law_151 : decode cL_law 151 = .ok (.aload_n 2, 1) := by decide +kernel
theorem dL_law_152 : decode cL_law 152 = .ok (.aload_n 0, 1) := by decide +kernel
theorem dL_law_153 : decode cL_law 153 = .ok (.iload 4, 2) := by decide +kernel
theorem dL_law_155 : decode cL_law 155 = .ok (.iconst 1, 1) := by decide +kernel
theorem dL_law_156 : decode cL_law 156 = .ok (.iadd, 1) := by decide +kernel
theorem dL_law_157 : decode cL_law 157 = .ok (.iaload, 1) := by decide +kernel
theorem dL_law_158 : decode cL_law 158 = .ok (.aload_n 0, 1) := by decide +kernel
theorem dL_law_159 : decode cL_law 159 = .ok (.iload 4, 2) := by decide +kernel
theorem dL_law_161 : decode cL_law 161 = .ok (.iconst 2, 1) := by decide +kernel
theorem dL_law_162 : decode cL_law 162 = .ok (.iadd, 1) := by decide +kernel
theorem dL_law_163 : decode cL_law 163 = .ok (.iaload, 1) := by decide +kernel
theorem dL_law_164 : decode cL_law 164 = .ok (.aload_n 0, 1) := by decide +kernel
theorem dL_law_165 : decode cL_law 165 = .ok (.iload 4, 2) := by decide +kernel
theorem dL_law_167 : decode cL_law 167 = .ok (.iconst 3, 1) := by decide +kernel
theorem dL_law_168 : decode cL_law 168 = .ok (.iadd, 1) := by decide +kernel
theorem dL_law_169 : decode cL_law 169 = .ok (.iaload, 1) := by decide +kernel
theorem dL_law_170 : decode cL_law 170 = .ok (.aload_n 0, 1) := by decide +kernel
theorem dL_law_171 : decode cL_law 171 = .ok (.iload 4, 2) := by decide +kernel
theorem dL_law_173 : decode cL_law 173 = .ok (.iconst 4, 1) := by decide +kernel
theorem dL_law_174 : decode cL_law 174 = .ok (.iadd, 1) := by decide +kernel
theorem dL_law_175 : decode cL_law 175 = .ok (.iaload, 1) := by decide +kernel
theorem dL_law_176 : decode cL_law 176 = .ok (.aload_n 0, 1) := by decide +kernel
theorem dL_law_177 : decode cL_law 177 = .ok (.iload 4, 2) := by decide +kernel
theorem dL_law_179 : decode cL_law 179 = .ok (.iconst 5, 1) := by decide +kernel
theorem dL_law_180 : decode cL_law 180 = .ok (.iadd, 1) := by decide +kernel
theorem dL_law_181 : decode cL_law 181 = .ok (.iaload, 1) := by decide +kernel
theorem dL_law_182 : decode cL_law 182 = .ok (.aload_n 0, 1) := by decide +kernel
theorem dL_law_183 : decode cL_law 183 = .ok (.iload 4, 2) := by decide +kernel
theorem dL_law_185 : decode cL_law 185 = .ok (.bipush 6, 2) := by decide +kernel
theorem dL_law_187 : decode cL_law 187 = .ok (.iadd, 1) := by decide +kernel
theorem dL_law_188 : decode cL_law 188 = .ok (.iaload, 1) := by decide +kernel
theorem dL_law_189 : decode cL_law 189 = .ok (.invokevirtual 62, 3) := by decide +kernel
theorem dL_law_192 : decode cL_law 192 = .ok (.aload_n 2, 1) := by decide +kernel
theorem dL_law_193 : decode cL_law 193 = .ok (.invokevirtual 63, 3) := by decide +kernel
theorem dL_law_196 : decode cL_law 196 = .ok (.iload 5, 2) := by decide +kernel
theorem dL_law_198 : decode cL_law 198 = .ok (.if_icmp .eq 5, 3) := by decide +kernel
theorem dL_law_201 : decode cL_law 201 = .ok (.iconst 0, 1) := by decide +kernel
theorem dL_law_202 : decode cL_law 202 = .ok (.ireturn, 1) := by decide +kernel
theorem dL_law_203 : decode cL_law 203 = .ok (.goto 666, 3) := by decide +kernel
theorem dL_law_206 : decode cL_law 206 = .ok (.aload_n 1, 1) := by decide +kernel
theorem dL_law_207 : decode cL_law 207 = .ok (.aload_n 0, 1) := by decide +kernel
theorem dL_law_208 : decode cL_law 208 = .ok (.iload 4, 2) := by decide +kernel
theorem dL_law_210 : decode cL_law 210 = .ok (.iconst 1, 1) := by decide +kernel
theorem dL_law_211 : decode cL_law 211 = .ok (.iadd, 1) := by decide +kernel
theorem dL_law_212 : decode cL_law 212 = .ok (.iaload, 1) := by decide +kernel
theorem dL_law_213 : decode cL_law 213 = .ok (.aload_n 0, 1) := by decide +kernel
theorem dL_law_214 : decode cL_law 214 = .ok (.iload 4, 2) := by decide +kernel
theorem dL_law_216 : decode cL_law 216 = .ok (.iconst 2, 1) := by decide +kernel
theorem dL_law_217 : decode cL_law 217 = .ok (.iadd, 1) := by decide +kernel
theorem dL_law_218 : decode cL_law 218 = .ok (.iaload, 1) := by decide +kernel
theorem dL_law_219 : decode cL_law 219 = .ok (.aload_n 3, 1) := by decide +kernel
theorem dL_law_220 : decode cL_law 220 = .ok (.invokestatic 67, 3) := by decide +kernel
theorem dL_law_223 : decode cL_law 223 = .ok (.istore 5, 2) := by decide +kernel
theorem dL_law_225 : decode cL_law 225 = .ok (.aload_n 2, 1) := by decide +kernel
theorem dL_law_226 : decode cL_law 226 = .ok (.aload_n 0, 1) := by decide +kernel
theorem dL_law_227 : decode cL_law 227 = .ok (.iload 4, 2) := by decide +kernel
theorem dL_law_229 : decode cL_law 229 = .ok (.iconst 1, 1) := by decide +kernel
theorem dL_law_230 : decode cL_law 230 = .ok (.iadd, 1) := by decide +kernel
theorem dL_law_231 : decode cL_law 231 = .ok (.iaload, 1) := by decide +kernel
theorem dL_law_232 : decode cL_law 232 = .ok (.aload_n 0, 1) := by decide +kernel
theorem dL_law_233 : decode cL_law 233 = .ok (.iload 4, 2) := by decide +kernel
theorem dL_law_235 : decode cL_law 235 = .ok (.iconst 2, 1) := by decide +kernel
theorem dL_law_236 : decode cL_law 236 = .ok (.iadd, 1) := by decide +kernel
theorem dL_law_237 : decode cL_law 237 = .ok (.iaload, 1) := by decide +kernel
theorem dL_law_238 : decode cL_law 238 = .ok (.invokevirtual 70, 3) := by decide +kernel
theorem dL_law_241 : decode cL_law 241 = .ok (.istore 6, 2) := by decide +kernel
theorem dL_law_243 : decode cL_law 243 = .ok (.aload_n 2, 1) := by decide +kernel
theorem dL_law_244 : decode cL_law 244 = .ok (.invokevirtual 63, 3) := by decide +kernel
theorem dL_law_247 : decode cL_law 247 = .ok (.iload 5, 2) := by decide +kernel
theorem dL_law_249 : decode cL_law 249 = .ok (.if_icmp .eq 5, 3) := by decide +kernel
theorem dL_law_252 : decode cL_law 252 = .ok (.iconst 0, 1) := by decide +kernel
theorem dL_law_253 : decode cL_law 253 = .ok (.ireturn, 1) := by decide +kernel
theorem dL_law_254 : decode cL_law 254 = .ok (.iload 5, 2) := by decide +kernel
theorem dL_law_256 : decode cL_law 256 = .ok (.ifCond .ne 15, 3) := by decide +kernel
theorem dL_law_259 : decode cL_law 259 = .ok (.aload_n 3, 1) := by decide +kernel
theorem dL_law_260 : decode cL_law 260 = .ok (.iconst 0, 1) := by decide +kernel
theorem dL_law_261 : decode cL_law 261 = .ok (.laload, 1) := by decide +kernel
theorem dL_law_262 : decode cL_law 262 = .ok (.iload 6, 2) := by decide +kernel
theorem dL_law_264 : decode cL_law 264 = .ok (.i2l, 1) := by decide +kernel
theorem dL_law_265 : decode cL_law 265 = .ok (.lcmp, 1) := by decide +kernel
theorem dL_law_266 : decode cL_law 266 = .ok (.ifCond .eq 5, 3) := by decide +kernel
theorem dL_law_269 : decode cL_law 269 = .ok (.iconst 0, 1) := by decide +kernel
theorem dL_law_270 : decode cL_law 270 = .ok (.ireturn, 1) := by decide +kernel
theorem dL_law_271 : decode cL_law 271 = .ok (.goto 598, 3) := by decide +kernel
theorem dL_law_274 : decode cL_law 274 = .ok (.aload_n 1, 1) := by decide +kernel
theorem dL_law_275 : decode cL_law 275 = .ok (.aload_n 0, 1) := by decide +kernel
theorem dL_law_276 : decode cL_law 276 = .ok (.iload 4, 2) := by decide +kernel
theorem dL_law_278 : decode cL_law 278 = .ok (.iconst 1, 1) := by decide +kernel
theorem dL_law_279 : decode cL_law 279 = .ok (.iadd, 1) := by decide +kernel
theorem dL_law_280 : decode cL_law 280 = .ok (.iaload, 1) := by decide +kernel
theorem dL_law_281 : decode cL_law 281 = .ok (.aload_n 3, 1) := by decide +kernel
theorem dL_law_282 : decode cL_law 282 = .ok (.invokestatic 71, 3) := by decide +kernel
theorem dL_law_285 : decode cL_law 285 = .ok (.istore 5, 2) := by decide +kernel
theorem dL_law_287 : decode cL_law 287 = .ok (.aload_n 2, 1) := by decide +kernel
theorem dL_law_288 : decode cL_law 288 = .ok (.aload_n 0, 1) := by decide +kernel
theorem dL_law_289 : decode cL_law 289 = .ok (.iload 4, 2) := by decide +kernel
theorem dL_law_291 : decode cL_law 291 = .ok (.iconst 1, 1) := by decide +kernel
theorem dL_law_292 : decode cL_law 292 = .ok (.iadd, 1) := by decide +kernel
theorem dL_law_293 : decode cL_law 293 = .ok (.iaload, 1) := by decide +kernel
theorem dL_law_294 : decode cL_law 294 = .ok (.invokevirtual 74, 3) := by decide +kernel
theorem dL_law_297 : decode cL_law 297 = .ok (.istore 6, 2) := by decide +kernel
theorem dL_law_299 : decode cL_law 299 = .ok (.aload_n 2, 1) := by decide +kernel
theorem dL_law_300 : decode cL_law 300 = .ok (.invokevirtual 63, 3) := by decide +kernel
theorem dL_law_303 : decode cL_law 303 = .ok (.iload 5, 2) := by decide +kernel
theorem dL_law_305 : decode cL_law 305 = .ok (.if_icmp .eq 5, 3) := by decide +kernel
theorem dL_law_308 : decode cL_law 308 = .ok (.iconst 0, 1) := by decide +kernel
theorem dL_law_309 : decode cL_law 309 = .ok (.ireturn, 1) := by decide +kernel
theorem dL_law_310 : decode cL_law 310 = .ok (.iload 5, 2) := by decide +kernel
theorem dL_law_312 : decode cL_law 312 = .ok (.ifCond .ne 15, 3) := by decide +kernel
theorem dL_law_315 : decode cL_law 315 = .ok (.aload_n 3, 1) := by decide +kernel
theorem dL_law_316 : decode cL_law 316 = .ok (.iconst 0, 1) := by decide +kernel
theorem dL_law_317 : decode cL_law 317 = .ok (.laload, 1) := by decide +kernel
theorem dL_law_318 : decode cL_law 318 = .ok (.iload 6, 2) := by decide +kernel
theorem dL_law_320 : decode cL_law 320 = .ok (.i2l, 1) := by decide +kernel
theorem dL_law_321 : decode cL_law 321 = .ok (.lcmp, 1) := by decide +kernel
theorem dL_law_322 : decode cL_law 322 = .ok (.ifCond .eq 5, 3) := by decide +kernel
theorem dL_law_325 : decode cL_law 325 = .ok (.iconst 0, 1) := by decide +kernel
theorem dL_law_326 : decode cL_law 326 = .ok (.ireturn, 1) := by decide +kernel
theorem dL_law_327 : decode cL_law 327 = .ok (.goto 542, 3) := by decide +kernel
theorem dL_law_330 : decode cL_law 330 = .ok (.aload_n 1, 1) := by decide +kernel
theorem dL_law_331 : decode cL_law 331 = .ok (.aload_n 0, 1) := by decide +kernel
theorem dL_law_332 : decode cL_law 332 = .ok (.iload 4, 2) := by decide +kernel
theorem dL_law_334 : decode cL_law 334 = .ok (.iconst 1, 1) := by decide +kernel
theorem dL_law_335 : decode cL_law 335 = .ok (.iadd, 1) := by decide +kernel
theorem dL_law_336 : decode cL_law 336 = .ok (.iaload, 1) := by decide +kernel
theorem dL_law_337 : decode cL_law 337 = .ok (.aload_n 0, 1) := by decide +kernel
theorem dL_law_338 : decode cL_law 338 = .ok (.iload 4, 2) := by decide +kernel
theorem dL_law_340 : decode cL_law 340 = .ok (.iconst 2, 1) := by decide +kernel
theorem dL_law_341 : decode cL_law 341 = .ok (.iadd, 1) := by decide +kernel
theorem dL_law_342 : decode cL_law 342 = .ok (.iaload, 1) := by decide +kernel
theorem dL_law_343 : decode cL_law 343 = .ok (.aload_n 3, 1) := by decide +kernel
theorem dL_law_344 : decode cL_law 344 = .ok (.invokestatic 75, 3) := by decide +kernel
theorem dL_law_347 : decode cL_law 347 = .ok (.istore 5, 2) := by decide +kernel
theorem dL_law_349 : decode cL_law 349 = .ok (.aload_n 2, 1) := by decide +kernel
theorem dL_law_350 : decode cL_law 350 = .ok (.aload_n 0, 1) := by decide +kernel
theorem dL_law_351 : decode cL_law 351 = .ok (.iload 4, 2) := by decide +kernel
theorem dL_law_353 : decode cL_law 353 = .ok (.iconst 1, 1) := by decide +kernel
theorem dL_law_354 : decode cL_law 354 = .ok (.iadd, 1) := by decide +kernel
theorem dL_law_355 : decode cL_law 355 = .ok (.iaload, 1) := by decide +kernel
theorem dL_law_356 : decode cL_law 356 = .ok (.aload_n 0, 1) := by decide +kernel
theorem dL_law_357 : decode cL_law 357 = .ok (.iload 4, 2) := by decide +kernel
theorem dL_law_359 : decode cL_law 359 = .ok (.iconst 2, 1) := by decide +kernel
theorem dL_law_360 : decode cL_law 360 = .ok (.iadd, 1) := by decide +kernel
theorem dL_law_361 : decode cL_law 361 = .ok (.iaload, 1) := by decide +kernel
theorem dL_law_362 : decode cL_law 362 = .ok (.invokevirtual 77, 3) := by decide +kernel
theorem dL_law_365 : decode cL_law 365 = .ok (.istore 6, 2) := by decide +kernel
theorem dL_law_367 : decode cL_law 367 = .ok (.aload_n 2, 1) := by decide +kernel
theorem dL_law_368 : decode cL_law 368 = .ok (.invokevirtual 63, 3) := by decide +kernel
theorem dL_law_371 : decode cL_law 371 = .ok (.iload 5, 2) := by decide +kernel
theorem dL_law_373 : decode cL_law 373 = .ok (.if_icmp .eq 5, 3) := by decide +kernel
theorem dL_law_376 : decode cL_law 376 = .ok (.iconst 0, 1) := by decide +kernel
theorem dL_law_377 : decode cL_law 377 = .ok (.ireturn, 1) := by decide +kernel
theorem dL_law_378 : decode cL_law 378 = .ok (.iload 5, 2) := by decide +kernel
theorem dL_law_380 : decode cL_law 380 = .ok (.ifCond .ne 15, 3) := by decide +kernel
theorem dL_law_383 : decode cL_law 383 = .ok (.aload_n 3, 1) := by decide +kernel
theorem dL_law_384 : decode cL_law 384 = .ok (.iconst 0, 1) := by decide +kernel
theorem dL_law_385 : decode cL_law 385 = .ok (.laload, 1) := by decide +kernel
theorem dL_law_386 : decode cL_law 386 = .ok (.iload 6, 2) := by decide +kernel
theorem dL_law_388 : decode cL_law 388 = .ok (.i2l, 1) := by decide +kernel
theorem dL_law_389 : decode cL_law 389 = .ok (.lcmp, 1) := by decide +kernel
theorem dL_law_390 : decode cL_law 390 = .ok (.ifCond .eq 5, 3) := by decide +kernel
theorem dL_law_393 : decode cL_law 393 = .ok (.iconst 0, 1) := by decide +kernel
theorem dL_law_394 : decode cL_law 394 = .ok (.ireturn, 1) := by decide +kernel
theorem dL_law_395 : decode cL_law 395 = .ok (.goto 474, 3) := by decide +kernel
theorem dL_law_398 : decode cL_law 398 = .ok (.aload_n 1, 1) := by decide +kernel
theorem dL_law_399 : decode cL_law 399 = .ok (.aload_n 0, 1) := by decide +kernel
theorem dL_law_400 : decode cL_law 400 = .ok (.iload 4, 2) := by decide +kernel
theorem dL_law_402 : decode cL_law 402 = .ok (.iconst 1, 1) := by decide +kernel
theorem dL_law_403 : decode cL_law 403 = .ok (.iadd, 1) := by decide +kernel
theorem dL_law_404 : decode cL_law 404 = .ok (.iaload, 1) := by decide +kernel
theorem dL_law_405 : decode cL_law 405 = .ok (.aload_n 3, 1) := by decide +kernel
theorem dL_law_406 : decode cL_law 406 = .ok (.invokestatic 78, 3) := by decide +kernel
theorem dL_law_409 : decode cL_law 409 = .ok (.istore 5, 2) := by decide +kernel
theorem dL_law_411 : decode cL_law 411 = .ok (.aload_n 2, 1) := by decide +kernel
theorem dL_law_412 : decode cL_law 412 = .ok (.aload_n 0, 1) := by decide +kernel
theorem dL_law_413 : decode cL_law 413 = .ok (.iload 4, 2) := by decide +kernel
theorem dL_law_415 : decode cL_law 415 = .ok (.iconst 1, 1) := by decide +kernel
theorem dL_law_416 : decode cL_law 416 = .ok (.iadd, 1) := by decide +kernel
theorem dL_law_417 : decode cL_law 417 = .ok (.iaload, 1) := by decide +kernel
theorem dL_law_418 : decode cL_law 418 = .ok (.invokevirtual 80, 3) := by decide +kernel
theorem dL_law_421 : decode cL_law 421 = .ok (.istore 6, 2) := by decide +kernel
theorem dL_law_423 : decode cL_law 423 = .ok (.aload_n 2, 1) := by decide +kernel
theorem dL_law_424 : decode cL_law 424 = .ok (.invokevirtual 63, 3) := by decide +kernel
theorem dL_law_427 : decode cL_law 427 = .ok (.iload 5, 2) := by decide +kernel
theorem dL_law_429 : decode cL_law 429 = .ok (.if_icmp .eq 5, 3) := by decide +kernel
theorem dL_law_432 : decode cL_law 432 = .ok (.iconst 0, 1) := by decide +kernel
theorem dL_law_433 : decode cL_law 433 = .ok (.ireturn, 1) := by decide +kernel
theorem dL_law_434 : decode cL_law 434 = .ok (.iload 5, 2) := by decide +kernel
theorem dL_law_436 : decode cL_law 436 = .ok (.ifCond .ne 15, 3) := by decide +kernel
theorem dL_law_439 : decode cL_law 439 = .ok (.aload_n 3, 1) := by decide +kernel
theorem dL_law_440 : decode cL_law 440 = .ok (.iconst 0, 1) := by decide +kernel
theorem dL_law_441 : decode cL_law 441 = .ok (.laload, 1) := by decide +kernel
theorem dL_law_442 : decode cL_law 442 = .ok (.iload 6, 2) := by decide +kernel
theorem dL_law_444 : decode cL_law 444 = .ok (.i2l, 1) := by decide +kernel
theorem dL_law_445 : decode cL_law 445 = .ok (.lcmp, 1) := by decide +kernel
theorem dL_law_446 : decode cL_law 446 = .ok (.ifCond .eq 5, 3) := by decide +kernel
theorem dL_law_449 : decode cL_law 449 = .ok (.iconst 0, 1) := by decide +kernel
theorem dL_law_450 : decode cL_law 450 = .ok (.ireturn, 1) := by decide +kernel
theorem dL_law_451 : decode cL_law 451 = .ok (.goto 418, 3) := by decide +kernel
theorem dL_law_454 : decode cL_law 454 = .ok (.aload_n 1, 1) := by decide +kernel
theorem dL_law_455 : decode cL_law 455 = .ok (.aload_n 0, 1) := by decide +kernel
theorem dL_law_456 : decode cL_law 456 = .ok (.iload 4, 2) := by decide +kernel
theorem dL_law_458 : decode cL_law 458 = .ok (.iconst 1, 1) := by decide +kernel
theorem dL_law_459 : decode cL_law 459 = .ok (.iadd, 1) := by decide +kernel
theorem dL_law_460 : decode cL_law 460 = .ok (.iaload, 1) := by decide +kernel
theorem dL_law_461 : decode cL_law 461 = .ok (.invokestatic 81, 3) := by decide +kernel
theorem dL_law_464 : decode cL_law 464 = .ok (.istore 5, 2) := by decide +kernel
theorem dL_law_466 : decode cL_law 466 = .ok (.aload_n 2, 1) := by decide +kernel
theorem dL_law_467 : decode cL_law 467 = .ok (.aload_n 0, 1) := by decide +kernel
theorem dL_law_468 : decode cL_law 468 = .ok (.iload 4, 2) := by decide +kernel
theorem dL_law_470 : decode cL_law 470 = .ok (.iconst 1, 1) := by decide +kernel
theorem dL_law_471 : decode cL_law 471 = .ok (.iadd, 1) := by decide +kernel
theorem dL_law_472 : decode cL_law 472 = .ok (.iaload, 1) := by decide +kernel
theorem dL_law_473 : decode cL_law 473 = .ok (.invokevirtual 84, 3) := by decide +kernel
theorem dL_law_476 : decode cL_law 476 = .ok (.aload_n 2, 1) := by decide +kernel
theorem dL_law_477 : decode cL_law 477 = .ok (.invokevirtual 63, 3) := by decide +kernel
theorem dL_law_480 : decode cL_law 480 = .ok (.iload 5, 2) := by decide +kernel
theorem dL_law_482 : decode cL_law 482 = .ok (.if_icmp .eq 5, 3) := by decide +kernel
theorem dL_law_485 : decode cL_law 485 = .ok (.iconst 0, 1) := by decide +kernel
theorem dL_law_486 : decode cL_law 486 = .ok (.ireturn, 1) := by decide +kernel
theorem dL_law_487 : decode cL_law 487 = .ok (.goto 382, 3) := by decide +kernel
theorem dL_law_490 : decode cL_law 490 = .ok (.aload_n 1, 1) := by decide +kernel
theorem dL_law_491 : decode cL_law 491 = .ok (.aload_n 0, 1) := by decide +kernel
theorem dL_law_492 : decode cL_law 492 = .ok (.iload 4, 2) := by decide +kernel
theorem dL_law_494 : decode cL_law 494 = .ok (.iconst 1, 1) := by decide +kernel
theorem dL_law_495 : decode cL_law 495 = .ok (.iadd, 1) := by decide +kernel
theorem dL_law_496 : decode cL_law 496 = .ok (.iaload, 1) := by decide +kernel
theorem dL_law_497 : decode cL_law 497 = .ok (.aload_n 3, 1) := by decide +kernel
theorem dL_law_498 : decode cL_law 498 = .ok (.invokestatic 85, 3) := by decide +kernel
theorem dL_law_501 : decode cL_law 501 = .ok (.istore 5, 2) := by decide +kernel
theorem dL_law_503 : decode cL_law 503 = .ok (.aload_n 2, 1) := by decide +kernel
theorem dL_law_504 : decode cL_law 504 = .ok (.aload_n 0, 1) := by decide +kernel
theorem dL_law_505 : decode cL_law 505 = .ok (.iload 4, 2) := by decide +kernel
theorem dL_law_507 : decode cL_law 507 = .ok (.iconst 1, 1) := by decide +kernel
theorem dL_law_508 : decode cL_law 508 = .ok (.iadd, 1) := by decide +kernel
theorem dL_law_509 : decode cL_law 509 = .ok (.iaload, 1) := by decide +kernel
theorem dL_law_510 : decode cL_law 510 = .ok (.invokevirtual 87, 3) := by decide +kernel
theorem dL_law_513 : decode cL_law 513 = .ok (.istore 6, 2) := by decide +kernel
theorem dL_law_515 : decode cL_law 515 = .ok (.aload_n 2, 1) := by decide +kernel
theorem dL_law_516 : decode cL_law 516 = .ok (.invokevirtual 63, 3) := by decide +kernel
theorem dL_law_519 : decode cL_law 519 = .ok (.iload 5, 2) := by decide +kernel
theorem dL_law_521 : decode cL_law 521 = .ok (.if_icmp .eq 5, 3) := by decide +kernel
theorem dL_law_524 : decode cL_law 524 = .ok (.iconst 0, 1) := by decide +kernel
theorem dL_law_525 : decode cL_law 525 = .ok (.ireturn, 1) := by decide +kernel
theorem dL_law_526 : decode cL_law 526 = .ok (.iload 5, 2) := by decide +kernel
theorem dL_law_528 : decode cL_law 528 = .ok (.ifCond .ne 15, 3) := by decide +kernel
theorem dL_law_531 : decode cL_law 531 = .ok (.aload_n 3, 1) := by decide +kernel
theorem dL_law_532 : decode cL_law 532 = .ok (.iconst 0, 1) := by decide +kernel
theorem dL_law_533 : decode cL_law 533 = .ok (.laload, 1) := by decide +kernel
theorem dL_law_534 : decode cL_law 534 = .ok (.iload 6, 2) := by decide +kernel
theorem dL_law_536 : decode cL_law 536 = .ok (.i2l, 1) := by decide +kernel
theorem dL_law_537 : decode cL_law 537 = .ok (.lcmp, 1) := by decide +kernel
theorem dL_law_538 : decode cL_law 538 = .ok (.ifCond .eq 5, 3) := by decide +kernel
theorem dL_law_541 : decode cL_law 541 = .ok (.iconst 0, 1) := by decide +kernel
theorem dL_law_542 : decode cL_law 542 = .ok (.ireturn, 1) := by decide +kernel
theorem dL_law_543 : decode cL_law 543 = .ok (.goto 326, 3) := by decide +kernel
theorem dL_law_546 : decode cL_law 546 = .ok (.aload_n 1, 1) := by decide +kernel
theorem dL_law_547 : decode cL_law 547 = .ok (.aload_n 0, 1) := by decide +kernel
theorem dL_law_548 : decode cL_law 548 = .ok (.iload 4, 2) := by decide +kernel
theorem dL_law_550 : decode cL_law 550 = .ok (.iconst 1, 1) := by decide +kernel
theorem dL_law_551 : decode cL_law 551 = .ok (.iadd, 1) := by decide +kernel
theorem dL_law_552 : decode cL_law 552 = .ok (.iaload, 1) := by decide +kernel
theorem dL_law_553 : decode cL_law 553 = .ok (.aload_n 3, 1) := by decide +kernel
theorem dL_law_554 : decode cL_law 554 = .ok (.invokestatic 88, 3) := by decide +kernel
theorem dL_law_557 : decode cL_law 557 = .ok (.istore 5, 2) := by decide +kernel
theorem dL_law_559 : decode cL_law 559 = .ok (.aload_n 2, 1) := by decide +kernel
theorem dL_law_560 : decode cL_law 560 = .ok (.aload_n 0, 1) := by decide +kernel
theorem dL_law_561 : decode cL_law 561 = .ok (.iload 4, 2) := by decide +kernel
theorem dL_law_563 : decode cL_law 563 = .ok (.iconst 1, 1) := by decide +kernel
theorem dL_law_564 : decode cL_law 564 = .ok (.iadd, 1) := by decide +kernel
theorem dL_law_565 : decode cL_law 565 = .ok (.iaload, 1) := by decide +kernel
theorem dL_law_566 : decode cL_law 566 = .ok (.invokevirtual 90, 3) := by decide +kernel
theorem dL_law_569 : decode cL_law 569 = .ok (.istore 6, 2) := by decide +kernel
theorem dL_law_571 : decode cL_law 571 = .ok (.aload_n 2, 1) := by decide +kernel
theorem dL_law_572 : decode cL_law 572 = .ok (.invokevirtual 63, 3) := by decide +kernel
theorem dL_law_575 : decode cL_law 575 = .ok (.iload 5, 2) := by decide +kernel
theorem dL_law_577 : decode cL_law 577 = .ok (.if_icmp .eq 5, 3) := by decide +kernel
theorem dL_law_580 : decode cL_law 580 = .ok (.iconst 0, 1) := by decide +kernel
theorem dL_law_581 : decode cL_law 581 = .ok (.ireturn, 1) := by decide +kernel
theorem dL_law_582 : decode cL_law 582 = .ok (.iload 5, 2) := by decide +kernel
theorem dL_law_584 : decode cL_law 584 = .ok (.ifCond .ne 15, 3) := by decide +kernel
theorem dL_law_587 : decode cL_law 587 = .ok (.aload_n 3, 1) := by decide +kernel
theorem dL_law_588 : decode cL_law 588 = .ok (.iconst 0, 1) := by decide +kernel
theorem dL_law_589 : decode cL_law 589 = .ok (.laload, 1) := by decide +kernel
theorem dL_law_590 : decode cL_law 590 = .ok (.iload 6, 2) := by decide +kernel
theorem dL_law_592 : decode cL_law 592 = .ok (.i2l, 1) := by decide +kernel
theorem dL_law_593 : decode cL_law 593 = .ok (.lcmp, 1) := by decide +kernel
theorem dL_law_594 : decode cL_law 594 = .ok (.ifCond .eq 5, 3) := by decide +kernel
theorem dL_law_597 : decode cL_law 597 = .ok (.iconst 0, 1) := by decide +kernel
theorem dL_law_598 : decode cL_law 598 = .ok (.ireturn, 1) := by decide +kernel
theorem dL_law_599 : decode cL_law 599 = .ok (.goto 270, 3) := by decide +kernel
theorem dL_law_602 : decode cL_law 602 = .ok (.aload_n 1, 1) := by decide +kernel
theorem dL_law_603 : decode cL_law 603 = .ok (.aload_n 0, 1) := by decide +kernel
theorem dL_law_604 : decode cL_law 604 = .ok (.iload 4, 2) := by decide +kernel
theorem dL_law_606 : decode cL_law 606 = .ok (.iconst 1, 1) := by decide +kernel
theorem dL_law_607 : decode cL_law 607 = .ok (.iadd, 1) := by decide +kernel
theorem dL_law_608 : decode cL_law 608 = .ok (.iaload, 1) := by decide +kernel
theorem dL_law_609 : decode cL_law 609 = .ok (.aload_n 3, 1) := by decide +kernel
theorem dL_law_610 : decode cL_law 610 = .ok (.invokestatic 91, 3) := by decide +kernel
theorem dL_law_613 : decode cL_law 613 = .ok (.istore 5, 2) := by decide +kernel
theorem dL_law_615 : decode cL_law 615 = .ok (.aload_n 2, 1) := by decide +kernel
theorem dL_law_616 : decode cL_law 616 = .ok (.aload_n 0, 1) := by decide +kernel
theorem dL_law_617 : decode cL_law 617 = .ok (.iload 4, 2) := by decide +kernel
theorem dL_law_619 : decode cL_law 619 = .ok (.iconst 1, 1) := by decide +kernel
theorem dL_law_620 : decode cL_law 620 = .ok (.iadd, 1) := by decide +kernel
theorem dL_law_621 : decode cL_law 621 = .ok (.iaload, 1) := by decide +kernel
theorem dL_law_622 : decode cL_law 622 = .ok (.invokevirtual 93, 3) := by decide +kernel
theorem dL_law_625 : decode cL_law 625 = .ok (.istore 6, 2) := by decide +kernel
theorem dL_law_627 : decode cL_law 627 = .ok (.aload_n 2, 1) := by decide +kernel
theorem dL_law_628 : decode cL_law 628 = .ok (.invokevirtual 63, 3) := by decide +kernel
theorem dL_law_631 : decode cL_law 631 = .ok (.iload 5, 2) := by decide +kernel
theorem dL_law_633 : decode cL_law 633 = .ok (.if_icmp .eq 5, 3) := by decide +kernel
theorem dL_law_636 : decode cL_law 636 = .ok (.iconst 0, 1) := by decide +kernel
theorem dL_law_637 : decode cL_law 637 = .ok (.ireturn, 1) := by decide +kernel
theorem dL_law_638 : decode cL_law 638 = .ok (.iload 5, 2) := by decide +kernel
theorem dL_law_640 : decode cL_law 640 = .ok (.ifCond .ne 15, 3) := by decide +kernel
theorem dL_law_643 : decode cL_law 643 = .ok (.aload_n 3, 1) := by decide +kernel
theorem dL_law_644 : decode cL_law 644 = .ok (.iconst 0, 1) := by decide +kernel
theorem dL_law_645 : decode cL_law 645 = .ok (.laload, 1) := by decide +kernel
theorem dL_law_646 : decode cL_law 646 = .ok (.iload 6, 2) := by decide +kernel
theorem dL_law_648 : decode cL_law 648 = .ok (.i2l, 1) := by decide +kernel
theorem dL_law_649 : decode cL_law 649 = .ok (.lcmp, 1) := by decide +kernel
theorem dL_law_650 : decode cL_law 650 = .ok (.ifCond .eq 5, 3) := by decide +kernel
theorem dL_law_653 : decode cL_law 653 = .ok (.iconst 0, 1) := by decide +kernel
theorem dL_law_654 : decode cL_law 654 = .ok (.ireturn, 1) := by decide +kernel
theorem dL_law_655 : decode cL_law 655 = .ok (.goto 214, 3) := by decide +kernel
theorem dL_law_658 : decode cL_law 658 = .ok (.aload_n 1, 1) := by decide +kernel
theorem dL_law_659 : decode cL_law 659 = .ok (.aload_n 0, 1) := by decide +kernel
theorem dL_law_660 : decode cL_law 660 = .ok (.iload 4, 2) := by decide +kernel
theorem dL_law_662 : decode cL_law 662 = .ok (.iconst 1, 1) := by decide +kernel
theorem dL_law_663 : decode cL_law 663 = .ok (.iadd, 1) := by decide +kernel
theorem dL_law_664 : decode cL_law 664 = .ok (.iaload, 1) := by decide +kernel
theorem dL_law_665 : decode cL_law 665 = .ok (.aload_n 3, 1) := by decide +kernel
theorem dL_law_666 : decode cL_law 666 = .ok (.invokestatic 94, 3) := by decide +kernel
theorem dL_law_669 : decode cL_law 669 = .ok (.istore 5, 2) := by decide +kernel
theorem dL_law_671 : decode cL_law 671 = .ok (.aload_n 2, 1) := by decide +kernel
theorem dL_law_672 : decode cL_law 672 = .ok (.aload_n 0, 1) := by decide +kernel
theorem dL_law_673 : decode cL_law 673 = .ok (.iload 4, 2) := by decide +kernel
theorem dL_law_675 : decode cL_law 675 = .ok (.iconst 1, 1) := by decide +kernel
theorem dL_law_676 : decode cL_law 676 = .ok (.iadd, 1) := by decide +kernel
theorem dL_law_677 : decode cL_law 677 = .ok (.iaload, 1) := by decide +kernel
theorem dL_law_678 : decode cL_law 678 = .ok (.invokevirtual 96, 3) := by decide +kernel
theorem dL_law_681 : decode cL_law 681 = .ok (.istore 6, 2) := by decide +kernel
theorem dL_law_683 : decode cL_law 683 = .ok (.aload_n 2, 1) := by decide +kernel
theorem dL_law_684 : decode cL_law 684 = .ok (.invokevirtual 63, 3) := by decide +kernel
theorem dL_law_687 : decode cL_law 687 = .ok (.iload 5, 2) := by decide +kernel
theorem dL_law_689 : decode cL_law 689 = .ok (.if_icmp .eq 5, 3) := by decide +kernel
theorem dL_law_692 : decode cL_law 692 = .ok (.iconst 0, 1) := by decide +kernel
theorem dL_law_693 : decode cL_law 693 = .ok (.ireturn, 1) := by decide +kernel
theorem dL_law_694 : decode cL_law 694 = .ok (.iload 5, 2) := by decide +kernel
theorem dL_law_696 : decode cL_law 696 = .ok (.ifCond .ne 15, 3) := by decide +kernel
theorem dL_law_699 : decode cL_law 699 = .ok (.aload_n 3, 1) := by decide +kernel
theorem dL_law_700 : decode cL_law 700 = .ok (.iconst 0, 1) := by decide +kernel
theorem dL_law_701 : decode cL_law 701 = .ok (.laload, 1) := by decide +kernel
theorem dL_law_702 : decode cL_law 702 = .ok (.iload 6, 2) := by decide +kernel
theorem dL_law_704 : decode cL_law 704 = .ok (.i2l, 1) := by decide +kernel
theorem dL_law_705 : decode cL_law 705 = .ok (.lcmp, 1) := by decide +kernel
theorem dL_law_706 : decode cL_law 706 = .ok (.ifCond .eq 5, 3) := by decide +kernel
theorem dL_law_709 : decode cL_law 709 = .ok (.iconst 0, 1) := by decide +kernel
theorem dL_law_710 : decode cL_law 710 = .ok (.ireturn, 1) := by decide +kernel
theorem dL_law_711 : decode cL_law 711 = .ok (.goto 158, 3) := by decide +kernel
theorem dL_law_714 : decode cL_law 714 = .ok (.aload_n 1, 1) := by decide +kernel
theorem dL_law_715 : decode cL_law 715 = .ok (.aload_n 0, 1) := by decide +kernel
theorem dL_law_716 : decode cL_law 716 = .ok (.iload 4, 2) := by decide +kernel
theorem dL_law_718 : decode cL_law 718 = .ok (.iconst 1, 1) := by decide +kernel
theorem dL_law_719 : decode cL_law 719 = .ok (.iadd, 1) := by decide +kernel
theorem dL_law_720 : decode cL_law 720 = .ok (.iaload, 1) := by decide +kernel
theorem dL_law_721 : decode cL_law 721 = .ok (.aload_n 3, 1) := by decide +kernel
theorem dL_law_722 : decode cL_law 722 = .ok (.invokestatic 97, 3) := by decide +kernel
theorem dL_law_725 : decode cL_law 725 = .ok (.istore 5, 2) := by decide +kernel
theorem dL_law_727 : decode cL_law 727 = .ok (.aload_n 2, 1) := by decide +kernel
theorem dL_law_728 : decode cL_law 728 = .ok (.aload_n 0, 1) := by decide +kernel
theorem dL_law_729 : decode cL_law 729 = .ok (.iload 4, 2) := by decide +kernel
theorem dL_law_731 : decode cL_law 731 = .ok (.iconst 1, 1) := by decide +kernel
theorem dL_law_732 : decode cL_law 732 = .ok (.iadd, 1) := by decide +kernel
theorem dL_law_733 : decode cL_law 733 = .ok (.iaload, 1) := by decide +kernel
theorem dL_law_734 : decode cL_law 734 = .ok (.invokevirtual 99, 3) := by decide +kernel
theorem dL_law_737 : decode cL_law 737 = .ok (.istore 6, 2) := by decide +kernel
theorem dL_law_739 : decode cL_law 739 = .ok (.aload_n 2, 1) := by decide +kernel
theorem dL_law_740 : decode cL_law 740 = .ok (.invokevirtual 63, 3) := by decide +kernel
theorem dL_law_743 : decode cL_law 743 = .ok (.iload 5, 2) := by decide +kernel
theorem dL_law_745 : decode cL_law 745 = .ok (.if_icmp .eq 5, 3) := by decide +kernel
theorem dL_law_748 : decode cL_law 748 = .ok (.iconst 0, 1) := by decide +kernel
theorem dL_law_749 : decode cL_law 749 = .ok (.ireturn, 1) := by decide +kernel
theorem dL_law_750 : decode cL_law 750 = .ok (.iload 5, 2) := by decide +kernel
theorem dL_law_752 : decode cL_law 752 = .ok (.ifCond .ne 15, 3) := by decide +kernel
theorem dL_law_755 : decode cL_law 755 = .ok (.aload_n 3, 1) := by decide +kernel
theorem dL_law_756 : decode cL_law 756 = .ok (.iconst 0, 1) := by decide +kernel
theorem dL_law_757 : decode cL_law 757 = .ok (.laload, 1) := by decide +kernel
theorem dL_law_758 : decode cL_law 758 = .ok (.iload 6, 2) := by decide +kernel
theorem dL_law_760 : decode cL_law 760 = .ok (.i2l, 1) := by decide +kernel
theorem dL_law_761 : decode cL_law 761 = .ok (.lcmp, 1) := by decide +kernel
theorem dL_law_762 : decode cL_law 762 = .ok (.ifCond .eq 5, 3) := by decide +kernel
theorem dL_law_765 : decode cL_law 765 = .ok (.iconst 0, 1) := by decide +kernel
theorem dL_law_766 : decode cL_law 766 = .ok (.ireturn, 1) := by decide +kernel
theorem dL_law_767 : decode cL_law 767 = .ok (.goto 102, 3) := by decide +kernel
theorem dL_law_770 : decode cL_law 770 = .ok (.aload_n 1, 1) := by decide +kernel
theorem dL_law_771 : decode cL_law 771 = .ok (.aload_n 0, 1) := by decide +kernel
theorem dL_law_772 : decode cL_law 772 = .ok (.iload 4, 2) := by decide +kernel
theorem dL_law_774 : decode cL_law 774 = .ok (.iconst 1, 1) := by decide +kernel
theorem dL_law_775 : decode cL_law 775 = .ok (.iadd, 1) := by decide +kernel
theorem dL_law_776 : decode cL_law 776 = .ok (.iaload, 1) := by decide +kernel
theorem dL_law_777 : decode cL_law 777 = .ok (.aload_n 3, 1) := by decide +kernel
theorem dL_law_778 : decode cL_law 778 = .ok (.invokestatic 100, 3) := by decide +kernel
theorem dL_law_781 : decode cL_law 781 = .ok (.istore 5, 2) := by decide +kernel
theorem dL_law_783 : decode cL_law 783 = .ok (.aload_n 2, 1) := by decide +kernel
theorem dL_law_784 : decode cL_law 784 = .ok (.aload_n 0, 1) := by decide +kernel
theorem dL_law_785 : decode cL_law 785 = .ok (.iload 4, 2) := by decide +kernel
theorem dL_law_787 : decode cL_law 787 = .ok (.iconst 1, 1) := by decide +kernel
theorem dL_law_788 : decode cL_law 788 = .ok (.iadd, 1) := by decide +kernel
theorem dL_law_789 : decode cL_law 789 = .ok (.iaload, 1) := by decide +kernel
theorem dL_law_790 : decode cL_law 790 = .ok (.invokevirtual 102, 3) := by decide +kernel
theorem dL_law_793 : decode cL_law 793 = .ok (.istore 6, 2) := by decide +kernel
theorem dL_law_795 : decode cL_law 795 = .ok (.aload_n 2, 1) := by decide +kernel
theorem dL_law_796 : decode cL_law 796 = .ok (.invokevirtual 63, 3) := by decide +kernel
theorem dL_law_799 : decode cL_law 799 = .ok (.iload 5, 2) := by decide +kernel
theorem dL_law_801 : decode cL_law 801 = .ok (.if_icmp .eq 5, 3) := by decide +kernel
theorem dL_law_804 : decode cL_law 804 = .ok (.iconst 0, 1) := by decide +kernel
theorem dL_law_805 : decode cL_law 805 = .ok (.ireturn, 1) := by decide +kernel
theorem dL_law_806 : decode cL_law 806 = .ok (.iload 5, 2) := by decide +kernel
theorem dL_law_808 : decode cL_law 808 = .ok (.ifCond .ne 15, 3) := by decide +kernel
theorem dL_law_811 : decode cL_law 811 = .ok (.aload_n 3, 1) := by decide +kernel
theorem dL_law_812 : decode cL_law 812 = .ok (.iconst 0, 1) := by decide +kernel
theorem dL_law_813 : decode cL_law 813 = .ok (.laload, 1) := by decide +kernel
theorem dL_law_814 : decode cL_law 814 = .ok (.iload 6, 2) := by decide +kernel
theorem dL_law_816 : decode cL_law 816 = .ok (.i2l, 1) := by decide +kernel
theorem dL_law_817 : decode cL_law 817 = .ok (.lcmp, 1) := by decide +kernel
theorem dL_law_818 : decode cL_law 818 = .ok (.ifCond .eq 5, 3) := by decide +kernel
theorem dL_law_821 : decode cL_law 821 = .ok (.iconst 0, 1) := by decide +kernel
theorem dL_law_822 : decode cL_law 822 = .ok (.ireturn, 1) := by decide +kernel
theorem dL_law_823 : decode cL_law 823 = .ok (.goto 46, 3) := by decide +kernel
theorem dL_law_826 : decode cL_law 826 = .ok (.aload_n 1, 1) := by decide +kernel
theorem dL_law_827 : decode cL_law 827 = .ok (.invokevirtual 103, 3) := by decide +kernel
theorem dL_law_830 : decode cL_law 830 = .ok (.f2d, 1) := by decide +kernel
theorem dL_law_831 : decode cL_law 831 = .ok (.dstore 5, 2) := by decide +kernel
theorem dL_law_833 : decode cL_law 833 = .ok (.aload_n 2, 1) := by decide +kernel
theorem dL_law_834 : decode cL_law 834 = .ok (.invokevirtual 107, 3) := by decide +kernel
theorem dL_law_837 : decode cL_law 837 = .ok (.f2d, 1) := by decide +kernel
theorem dL_law_838 : decode cL_law 838 = .ok (.dstore 7, 2) := by decide +kernel
theorem dL_law_840 : decode cL_law 840 = .ok (.dload 5, 2) := by decide +kernel
theorem dL_law_842 : decode cL_law 842 = .ok (.dload 7, 2) := by decide +kernel
theorem dL_law_844 : decode cL_law 844 = .ok (.dcmp .l, 1) := by decide +kernel
theorem dL_law_845 : decode cL_law 845 = .ok (.ifCond .eq 21, 3) := by decide +kernel
theorem dL_law_848 : decode cL_law 848 = .ok (.dload 5, 2) := by decide +kernel
theorem dL_law_850 : decode cL_law 850 = .ok (.dload 5, 2) := by decide +kernel
theorem dL_law_852 : decode cL_law 852 = .ok (.dcmp .l, 1) := by decide +kernel
theorem dL_law_853 : decode cL_law 853 = .ok (.ifCond .eq 11, 3) := by decide +kernel
theorem dL_law_856 : decode cL_law 856 = .ok (.dload 7, 2) := by decide +kernel
theorem dL_law_858 : decode cL_law 858 = .ok (.dload 7, 2) := by decide +kernel
theorem dL_law_860 : decode cL_law 860 = .ok (.dcmp .l, 1) := by decide +kernel
theorem dL_law_861 : decode cL_law 861 = .ok (.ifCond .ne 5, 3) := by decide +kernel
theorem dL_law_864 : decode cL_law 864 = .ok (.iconst 0, 1) := by decide +kernel
theorem dL_law_865 : decode cL_law 865 = .ok (.ireturn, 1) := by decide +kernel
theorem dL_law_866 : decode cL_law 866 = .ok (.goto 3, 3) := by decide +kernel
theorem dL_law_869 : decode cL_law 869 = .ok (.iinc 4 7, 3) := by decide +kernel
theorem dL_law_872 : decode cL_law 872 = .ok (.goto (-849), 3) := by decide +kernel
theorem dL_law_875 : decode cL_law 875 = .ok (.iconst 1, 1) := by decide +kernel
theorem dL_law_876 : decode cL_law 876 = .ok (.ireturn, 1) := by decide +kernel
end
section
/-! the heap as objects by (kind, index): kinds 0 Flight, 1 Instruction (index: its address), 2 StageChip, 3 StageChipModel, 4 int rows, 5 the row of booleans, 6 Flight rows, 7 Instruction rows, 8 the row of longs -/
abbrev sc_I : Type := Nat → Nat → Nat → Int32
abbrev sc_R : Type := Nat → Nat → Nat → Nat
abbrev sc_V : Type := Int32 ⊕ (Nat × Nat)
def sc_u {α : Type} (I : Nat → Nat → Nat → α) (k i s : Nat) (v : α) : Nat → Nat → Nat → α := fun a b c => bif (Nat.beq a k && (Nat.beq b i && Nat.beq c s)) then v else I a b c
theorem sc_beq_ne {a b : Nat} (h : a ≠ b) : Nat.beq a b = false := by
  cases hb : Nat.beq a b
  · rfl
  · exact absurd (Nat.eq_of_beq_eq_true hb) h
theorem sc_u_row {α : Type} (I : Nat → Nat → Nat → α) (k i s : Nat) (v : α) {a b : Nat} (h : ¬ (a = k ∧ b = i)) : sc_u I k i s v a b = I a b := by
  funext c
  unfold sc_u
  by_cases h1 : a = k
  · have h2 : b ≠ i := fun e => h ⟨h1, e⟩
    rw [sc_beq_ne h2]; simp
  · rw [sc_beq_ne h1]; simp
theorem sc_u_at {α : Type} (I : Nat → Nat → Nat → α) (k i s : Nat) (v : α) : sc_u I k i s v k i = va_up (I k i) s v := by
  funext c
  unfold sc_u va_up
  by_cases h : c = s
  · subst h; simp
  · rw [sc_beq_ne h]; simp [h]
def sc_tab {α : Type} (n : Nat) (f : Nat → α) : List α := (List.range n).map f
theorem sc_tab_get {α : Type} {n k : Nat} {f : Nat → α} (h : k < n) : (sc_tab n f)[k]? = some (f k) := by
  simp [sc_tab, h]
theorem sc_tab_len {α : Type} {n : Nat} {f : Nat → α} : (sc_tab n f).length = n := by simp [sc_tab]
theorem sc_tab_congr {α : Type} {n : Nat} {f g : Nat → α} (h : ∀ k, k < n → f k = g k) : sc_tab n f = sc_tab n g := by
  unfold sc_tab
  exact List.map_congr_left (fun k hk => h k (List.mem_range.mp hk))
theorem sc_tab_set {α : Type} {n k : Nat} {f : Nat → α} (v : α) : (sc_tab n f).set k v = sc_tab n (va_up f k v) := by
  apply List.ext_getElem?
  intro j
  by_cases hj : j < n
  · rw [sc_tab_get hj, List.getElem?_set, sc_tab_get hj, sc_tab_len]
    unfold va_up
    by_cases e : k = j
    · subst e; simp [hj]
    · have e2 : ¬ j = k := fun z => e z.symm
      simp [e, e2]
  · rw [List.getElem?_eq_none (by rw [List.length_set, sc_tab_len]; omega), List.getElem?_eq_none (by rw [sc_tab_len]; omega)]
def sc_kd (p : Nat) : Nat := match p with
  | 0 => 2 | 1 => 3 | 2 => 0 | 3 => 0 | 4 => 0 | 5 => 0 | 6 => 0 | 7 => 5 | 8 => 6 | 9 => 7 | 10 => 8 | _ => 4
def sc_ix (p : Nat) : Nat := match p with
  | 0 => 0 | 1 => 0 | 2 => 0 | 3 => 1 | 4 => 2 | 5 => 3 | 6 => 4 | 7 => 0 | 8 => 0 | 9 => 0 | 10 => 0 | n + 11 => n
def sc_pl (k i : Nat) : Nat := match k with
  | 0 => i + 2 | 2 => 0 | 3 => 1 | 4 => i + 11 | 5 => 7 | 6 => 8 | 7 => 9 | _ => 10
theorem sc_pl_kd : ∀ p, p < 34 → sc_pl (sc_kd p) (sc_ix p) = p := by decide
def sc_ad (ad : Nat → Nat) (k i : Nat) : Nat := match k with
  | 1 => i
  | k => ad (sc_pl k i)
/-- a field of kind k at slot s: none, an int; some (k', some i'), always that object; some (k', none), some object of kind k' -/
def sc_fx (k s : Nat) : Option (Nat × Option Nat) := match k with
  | 0 => (match s with
    | 1 => some (1, none)
    | _ => none)
  | 2 => (match s with
    | 0 => some (1, none) | 1 => some (7, some 0) | 2 => some (4, some 0) | 3 => some (4, some 1) | 4 => some (4, some 2) | 5 => some (6, some 0) | 6 => some (4, some 3)
    | _ => none)
  | 3 => (match s with
    | 1 => some (4, some 4) | 2 => some (4, some 5) | 3 => some (4, some 6) | 4 => some (4, some 7) | 5 => some (4, some 8) | 6 => some (4, some 9) | 7 => some (4, some 10) | 8 => some (4, some 11) | 9 => some (5, some 0)
    | 10 => some (4, some 12) | 11 => some (4, some 13) | 12 => some (4, some 14) | 13 => some (4, some 15) | 14 => some (4, some 16) | 15 => some (4, some 17) | 16 => some (4, some 18) | 17 => some (4, some 19) | 18 => some (4, some 20) | 19 => some (4, some 21) | 32 => some (4, some 22)
    | _ => none)
  | _ => none
def sc_nf (k : Nat) : Nat := match k with
  | 0 => 8 | 1 => 5 | 2 => 17 | _ => 33
def sc_fw (ad : Nat → Nat) (k s : Nat) (r : Nat → Int32) (d : Nat → Nat) : Value := match sc_fx k s with
  | none => .int (r s)
  | some (k', some i') => .ref (sc_ad ad k' i')
  | some (k', none) => .ref (sc_ad ad k' (d s))
def sc_ln (j : Nat) : Nat := [32, 16, 8, 16, 64, 64, 64, 64, 64, 32, 16, 8, 5, 5, 5, 5, 5, 5, 5, 5, 5, 5, 16].getD j 0
def sc_mk (ad : Nat → Nat) (cA : Nat → ClassId) (o : Nat → Int64) (p : Nat) (r : Nat → Int32) (d : Nat → Nat) : va_E := match p with
  | 7 => .inl (cA 23, 5, .inl r)
  | 8 => .inl (cA 24, 5, .inr (.inr (.inr (.inr (fun i => some (sc_ad ad 0 (d i)))))))
  | 9 => .inl (cA 25, 64, .inr (.inr (.inr (.inr (fun i => some (sc_ad ad 1 (d i)))))))
  | 10 => .inl (cA 26, 1, .inr (.inl o))
  | n + 11 => .inl (cA n, sc_ln n, .inl r)
  | p => .inr (sc_kd p, sc_tab (sc_nf (sc_kd p)) (fun s => sc_fw ad (sc_kd p) s r d))
def sc_w (ad : Nat → Nat) (cA : Nat → ClassId) (LP : List Nat) (o : Nat → Int64) (I : sc_I) (D : sc_R) : va_W :=
  sc_tab 34 (fun p => (ad p, sc_mk ad cA o p (I (sc_kd p) (sc_ix p)) (D (sc_kd p) (sc_ix p)))) ++ va_pl LP (fun a => .inr (1, sc_tab 5 (fun s => sc_fw ad 1 s (I 1 a) (D 1 a))))
def sc_ok (LP : List Nat) (v : sc_V) : Prop := match v with
  | .inl _ => True
  | .inr (k, i) => (match k with
    | 0 => i < 5 | 1 => i ∈ LP | 2 => i = 0 | 3 => i = 0 | 4 => i < 23 | 5 => i = 0 | 6 => i = 0 | 7 => i = 0 | _ => False)
def sc_vd (LP : List Nat) (D : sc_R) : Prop := (∀ f, f < 5 → D 0 f 1 ∈ LP) ∧ (∀ i, i < 5 → D 6 0 i < 5) ∧ (∀ i, i < 64 → D 7 0 i ∈ LP) ∧ D 2 0 0 ∈ LP
theorem sc_w_get {ad : Nat → Nat} {cA : Nat → ClassId} {LP : List Nat} {o : Nat → Int64} {I : sc_I} {D : sc_R} {p : Nat} (hp : p < 34) : (sc_w ad cA LP o I D)[p]? = some (ad p, sc_mk ad cA o p (I (sc_kd p) (sc_ix p)) (D (sc_kd p) (sc_ix p))) := by
  unfold sc_w
  rw [List.getElem?_append_left (by rw [sc_tab_len]; exact hp), sc_tab_get hp]
theorem sc_fl5 {P : Nat → Prop} (h0 : P 0) (h1 : P 1) (h2 : P 2) (h3 : P 3) (h4 : P 4) {f : Nat} (hf : f < 5) : P f := by
  match f, hf with
  | 0, _ => exact h0
  | 1, _ => exact h1
  | 2, _ => exact h2
  | 3, _ => exact h3
  | 4, _ => exact h4
/-- an object of the world -/
theorem sc_obj {ad : Nat → Nat} {cA : Nat → ClassId} {LP : List Nat} {o : Nat → Int64} {I : sc_I} {D : sc_R} {k i : Nat} (hk : k = 0 ∨ k = 2 ∨ k = 3) (hok : sc_ok LP (.inr (k, i))) : sc_pl k i < 34 ∧ (sc_w ad cA LP o I D)[sc_pl k i]? = some (sc_ad ad k i, .inr (k, sc_tab (sc_nf k) (fun s => sc_fw ad k s (I k i) (D k i)))) := by
  rcases hk with rfl | rfl | rfl
  · have hi : i < 5 := hok
    have hp : i + 2 < 34 := by omega
    refine ⟨hp, ?_⟩
    rw [sc_w_get (show sc_pl 0 i < 34 from hp)]
    exact sc_fl5 (P := fun i => some (ad (sc_pl 0 i), sc_mk ad cA o (sc_pl 0 i) (I (sc_kd (sc_pl 0 i)) (sc_ix (sc_pl 0 i))) (D (sc_kd (sc_pl 0 i)) (sc_ix (sc_pl 0 i)))) = some (sc_ad ad 0 i, .inr (0, sc_tab (sc_nf 0) (fun s => sc_fw ad 0 s (I 0 i) (D 0 i))))) rfl rfl rfl rfl rfl hi
  · have hi : i = 0 := hok
    subst hi
    refine ⟨by decide, ?_⟩
    rw [sc_w_get (show sc_pl 2 0 < 34 by decide)]
    rfl
  · have hi : i = 0 := hok
    subst hi
    refine ⟨by decide, ?_⟩
    rw [sc_w_get (show sc_pl 3 0 < 34 by decide)]
    rfl
theorem sc_objx {ad : Nat → Nat} {cA : Nat → ClassId} {LP : List Nat} {o : Nat → Int64} {I : sc_I} {D : sc_R} {k i : Nat} (hk : k < 4) (hok : sc_ok LP (.inr (k, i))) : ∃ q0 : Nat, (sc_w ad cA LP o I D)[q0]? = some (sc_ad ad k i, .inr (k, sc_tab (sc_nf k) (fun s => sc_fw ad k s (I k i) (D k i)))) := by
  rcases (show k = 0 ∨ k = 1 ∨ k = 2 ∨ k = 3 by omega) with rfl | rfl | rfl | rfl
  · exact ⟨_, (sc_obj (Or.inl rfl) hok).2⟩
  · have hi : i ∈ LP := hok
    exact va_pl_get (X := sc_tab 34 (fun p => (ad p, sc_mk ad cA o p (I (sc_kd p) (sc_ix p)) (D (sc_kd p) (sc_ix p))))) (f := fun a => .inr (1, sc_tab 5 (fun s => sc_fw ad 1 s (I 1 a) (D 1 a)))) hi
  · exact ⟨_, (sc_obj (Or.inr (Or.inl rfl)) hok).2⟩
  · exact ⟨_, (sc_obj (Or.inr (Or.inr rfl)) hok).2⟩
theorem sc_w_set {ad : Nat → Nat} {cA : Nat → ClassId} {LP : List Nat} {o : Nat → Int64} {I I' : sc_I} {D D' : sc_R} {p : Nat} {e : va_E} (hp : p < 34) (h1 : ∀ q, q < 34 → q ≠ p → I' (sc_kd q) (sc_ix q) = I (sc_kd q) (sc_ix q) ∧ D' (sc_kd q) (sc_ix q) = D (sc_kd q) (sc_ix q)) (h2 : sc_mk ad cA o p (I' (sc_kd p) (sc_ix p)) (D' (sc_kd p) (sc_ix p)) = e) (h3 : ∀ a, I' 1 a = I 1 a ∧ D' 1 a = D 1 a) : (sc_w ad cA LP o I D).set p (ad p, e) = sc_w ad cA LP o I' D' := by
  unfold sc_w
  rw [List.set_append_left _ _ (by rw [sc_tab_len]; exact hp), sc_tab_set]
  have e1 : sc_tab 34 (va_up (fun p => (ad p, sc_mk ad cA o p (I (sc_kd p) (sc_ix p)) (D (sc_kd p) (sc_ix p)))) p (ad p, e)) = sc_tab 34 (fun p => (ad p, sc_mk ad cA o p (I' (sc_kd p) (sc_ix p)) (D' (sc_kd p) (sc_ix p)))) := by
    refine sc_tab_congr (fun q hq => ?_)
    by_cases hqp : q = p
    · subst hqp
      rw [va_up_self, h2]
    · rw [va_up_ne _ _ hqp, (h1 q hq hqp).1, (h1 q hq hqp).2]
  rw [e1]
  refine congrArg _ (va_pl_congr (fun a => ?_))
  rw [(h3 a).1, (h3 a).2]
theorem sc_rows {k i : Nat} {α : Type} {I : Nat → Nat → Nat → α} {s : Nat} {v : α} (q : Nat) (hq : q < 34) (hne : q ≠ sc_pl k i) : sc_u I k i s v (sc_kd q) (sc_ix q) = I (sc_kd q) (sc_ix q) := by
  refine sc_u_row _ _ _ _ _ (fun h => hne ?_)
  rw [← h.1, ← h.2, sc_pl_kd q hq]
theorem sc_rows1 {k i : Nat} {α : Type} {I : Nat → Nat → Nat → α} {s : Nat} {v : α} (hk : k ≠ 1) (a : Nat) : sc_u I k i s v 1 a = I 1 a := sc_u_row _ _ _ _ _ (fun h => hk h.1.symm)
theorem sc_mk_obj {ad : Nat → Nat} {cA : Nat → ClassId} {o : Nat → Int64} {LP : List Nat} {k i : Nat} (hk : k = 0 ∨ k = 2 ∨ k = 3) (hok : sc_ok LP (.inr (k, i))) (r : Nat → Int32) (d : Nat → Nat) : sc_kd (sc_pl k i) = k ∧ sc_ix (sc_pl k i) = i ∧ sc_ad ad k i = ad (sc_pl k i) ∧ sc_mk ad cA o (sc_pl k i) r d = .inr (k, sc_tab (sc_nf k) (fun s => sc_fw ad k s r d)) := by
  rcases hk with rfl | rfl | rfl
  · have hi : i < 5 := hok
    exact sc_fl5 (P := fun i => sc_kd (sc_pl 0 i) = 0 ∧ sc_ix (sc_pl 0 i) = i ∧ sc_ad ad 0 i = ad (sc_pl 0 i) ∧ sc_mk ad cA o (sc_pl 0 i) r d = .inr (0, sc_tab (sc_nf 0) (fun s => sc_fw ad 0 s r d))) ⟨rfl, rfl, rfl, rfl⟩ ⟨rfl, rfl, rfl, rfl⟩ ⟨rfl, rfl, rfl, rfl⟩ ⟨rfl, rfl, rfl, rfl⟩ ⟨rfl, rfl, rfl, rfl⟩ hi
  · have hi : i = 0 := hok
    subst hi
    exact ⟨rfl, rfl, rfl, rfl⟩
  · have hi : i = 0 := hok
    subst hi
    exact ⟨rfl, rfl, rfl, rfl⟩
/-- an int field is written -/
theorem sc_w_putI {ad : Nat → Nat} {cA : Nat → ClassId} {LP : List Nat} {o : Nat → Int64} {I : sc_I} {D : sc_R} {k i s : Nat} (hk : k = 0 ∨ k = 2 ∨ k = 3) (hok : sc_ok LP (.inr (k, i))) (hx : sc_fx k s = none) (v : Int32) : (sc_w ad cA LP o I D).set (sc_pl k i) (sc_ad ad k i, .inr (k, (sc_tab (sc_nf k) (fun s => sc_fw ad k s (I k i) (D k i))).set s (.int v))) = sc_w ad cA LP o (sc_u I k i s v) D := by
  obtain ⟨hp, -⟩ := sc_obj (ad := ad) (cA := cA) (o := o) (I := I) (D := D) hk hok
  obtain ⟨e1, e2, e3, e4⟩ := sc_mk_obj (ad := ad) (cA := cA) (o := o) hk hok (sc_u I k i s v k i) (D k i)
  rw [e3]
  refine sc_w_set hp (fun q hq hne => ⟨sc_rows q hq hne, rfl⟩) ?_ (fun a => ⟨sc_rows1 (by rcases hk with rfl | rfl | rfl <;> decide) a, rfl⟩)
  rw [e1, e2, e4, sc_tab_set]
  refine congrArg (fun x => Sum.inr (k, x)) (sc_tab_congr (fun t _ => ?_))
  rw [sc_u_at]
  by_cases ht : t = s
  · subst ht
    rw [va_up_self]
    unfold sc_fw
    rw [hx]
    simp only [va_up_self]
  · rw [va_up_ne _ _ ht]
    unfold sc_fw
    rw [va_up_ne _ _ ht]
/-- a flight gets its instruction -/
theorem sc_w_putN {ad : Nat → Nat} {cA : Nat → ClassId} {LP : List Nat} {o : Nat → Int64} {I : sc_I} {D : sc_R} {i : Nat} (hok : sc_ok LP (.inr (0, i))) (a : Nat) : (sc_w ad cA LP o I D).set (sc_pl 0 i) (sc_ad ad 0 i, .inr (0, (sc_tab (sc_nf 0) (fun s => sc_fw ad 0 s (I 0 i) (D 0 i))).set 1 (.ref (sc_ad ad 1 a)))) = sc_w ad cA LP o I (sc_u D 0 i 1 a) := by
  obtain ⟨hp, -⟩ := sc_obj (ad := ad) (cA := cA) (o := o) (I := I) (D := D) (Or.inl rfl) hok
  obtain ⟨e1, e2, e3, e4⟩ := sc_mk_obj (ad := ad) (cA := cA) (o := o) (Or.inl rfl) hok (I 0 i) (sc_u D 0 i 1 a 0 i)
  rw [e3]
  refine sc_w_set hp (fun q hq hne => ⟨rfl, sc_rows q hq hne⟩) ?_ (fun b => ⟨rfl, sc_rows1 (by decide) b⟩)
  rw [e1, e2, e4, sc_tab_set]
  refine congrArg (fun x => Sum.inr (0, x)) (sc_tab_congr (fun t _ => ?_))
  rw [sc_u_at]
  by_cases ht : t = 1
  · subst ht
    rw [va_up_self]
    rfl
  · rw [va_up_ne _ _ ht]
    unfold sc_fw
    rw [va_up_ne _ _ ht]
theorem sc_w_row {ad : Nat → Nat} {cA : Nat → ClassId} {LP : List Nat} {o : Nat → Int64} {I : sc_I} {D : sc_R} {j : Nat} (hj : j < 23) : (sc_w ad cA LP o I D)[j + 11]? = some (ad (j + 11), .inl (cA j, sc_ln j, .inl (I 4 j))) := by
  rw [sc_w_get (show j + 11 < 34 by omega)]
  rfl
theorem sc_w_rowset {ad : Nat → Nat} {cA : Nat → ClassId} {LP : List Nat} {o : Nat → Int64} {I : sc_I} {D : sc_R} {j : Nat} (hj : j < 23) (x : Nat) (v : Int32) : (sc_w ad cA LP o I D).set (j + 11) (ad (j + 11), .inl (cA j, sc_ln j, .inl (upd (I 4 j) x v))) = sc_w ad cA LP o (sc_u I 4 j x v) D := by
  refine sc_w_set (show j + 11 < 34 by omega) (fun q hq hne => ⟨sc_rows (k := 4) (i := j) q hq hne, rfl⟩) ?_ (fun a => ⟨sc_rows1 (by decide) a, rfl⟩)
  show (Sum.inl (cA j, sc_ln j, .inl (sc_u I 4 j x v 4 j)) : va_E) = _
  rw [sc_u_at]
  rfl
theorem sc_w_there {ad : Nat → Nat} {cA : Nat → ClassId} {LP : List Nat} {o : Nat → Int64} {I : sc_I} {D : sc_R} : (sc_w ad cA LP o I D)[7]? = some (ad 7, .inl (cA 23, 5, .inl (I 5 0))) := by
  rw [sc_w_get (show 7 < 34 by decide)]
  rfl
theorem sc_w_thereset {ad : Nat → Nat} {cA : Nat → ClassId} {LP : List Nat} {o : Nat → Int64} {I : sc_I} {D : sc_R} (x : Nat) (v : Int32) : (sc_w ad cA LP o I D).set 7 (ad 7, .inl (cA 23, 5, .inl (upd (I 5 0) x v))) = sc_w ad cA LP o (sc_u I 5 0 x v) D := by
  refine sc_w_set (show 7 < 34 by decide) (fun q hq hne => ⟨sc_rows (k := 5) (i := 0) q hq hne, rfl⟩) ?_ (fun a => ⟨sc_rows1 (by decide) a, rfl⟩)
  show (Sum.inl (cA 23, 5, .inl (sc_u I 5 0 x v 5 0)) : va_E) = _
  rw [sc_u_at]
  rfl
theorem sc_w_stages {ad : Nat → Nat} {cA : Nat → ClassId} {LP : List Nat} {o : Nat → Int64} {I : sc_I} {D : sc_R} : (sc_w ad cA LP o I D)[8]? = some (ad 8, .inl (cA 24, 5, .inr (.inr (.inr (.inr (fun i => some (sc_ad ad 0 (D 6 0 i)))))))) := by
  rw [sc_w_get (show 8 < 34 by decide)]
  rfl
theorem sc_w_program {ad : Nat → Nat} {cA : Nat → ClassId} {LP : List Nat} {o : Nat → Int64} {I : sc_I} {D : sc_R} : (sc_w ad cA LP o I D)[9]? = some (ad 9, .inl (cA 25, 64, .inr (.inr (.inr (.inr (fun i => some (sc_ad ad 1 (D 7 0 i)))))))) := by
  rw [sc_w_get (show 9 < 34 by decide)]
  rfl
theorem sc_w_stageset {ad : Nat → Nat} {cA : Nat → ClassId} {LP : List Nat} {o : Nat → Int64} {I : sc_I} {D : sc_R} (x f : Nat) : (sc_w ad cA LP o I D).set 8 (ad 8, .inl (cA 24, 5, .inr (.inr (.inr (.inr (va_up (fun i => some (sc_ad ad 0 (D 6 0 i))) x (some (sc_ad ad 0 f)))))))) = sc_w ad cA LP o I (sc_u D 6 0 x f) := by
  refine sc_w_set (show 8 < 34 by decide) (fun q hq hne => ⟨rfl, sc_rows (k := 6) (i := 0) q hq hne⟩) ?_ (fun a => ⟨rfl, sc_rows1 (by decide) a⟩)
  show (Sum.inl (cA 24, 5, .inr (.inr (.inr (.inr (fun i => some (sc_ad ad 0 (sc_u D 6 0 x f 6 0 i))))))) : va_E) = _
  rw [sc_u_at]
  have e : (fun i => some (sc_ad ad 0 (va_up (D 6 0) x f i))) = va_up (fun i => some (sc_ad ad 0 (D 6 0 i))) x (some (sc_ad ad 0 f)) := by
    funext i
    by_cases hi : i = x
    · subst hi; rw [va_up_self, va_up_self]
    · rw [va_up_ne _ _ hi, va_up_ne _ _ hi]
  rw [e]
/-- the classes and rows of the world, by the tables; the words of nest mates -/
def sc_ty (j : Nat) : FieldType := match j with
  | 23 => .boolean | 24 => .object RX0 | 25 => .object RX1 | 26 => .long | _ => .int
def sc_tys (cA : Nat → ClassId) : List (ClassId × FieldType) := sc_tab 27 (fun j => (cA j, sc_ty j))
theorem sc_tys_int {cA : Nat → ClassId} {j : Nat} (hj : j < 23) : (sc_tys cA)[j]? = some (cA j, .int) := by
  rw [sc_tys, sc_tab_get (by omega)]
  have e : sc_ty j = .int := by
    unfold sc_ty
    split <;> first | omega | rfl
  rw [e]
def sc_cl (k : Nat) : vw_C := match k with
  | 0 => (RX0, TX0, 8) | 1 => (RX1, TX1, 5) | 2 => (RX2, TX2, 17) | _ => (RX3, TX3, 33)
theorem sc_cl_at {k : Nat} (hk : k < 4) : vwCl[k]? = some (sc_cl k) := by
  rcases (show k = 0 ∨ k = 1 ∨ k = 2 ∨ k = 3 by omega) with rfl | rfl | rfl | rfl <;> rfl
theorem sc_cl_n {k : Nat} (hk : k < 4) : (sc_cl k).2.2 = sc_nf k := by
  rcases (show k = 0 ∨ k = 1 ∨ k = 2 ∨ k = 3 by omega) with rfl | rfl | rfl | rfl <;> rfl
def sc_G : List Cond := lw_tbl.filter goodWord
theorem sc_inG {w : Cond} (i : Nat) (h : tables_1[i]? = some w) (hg : goodWord w = true) : w ∈ sc_G := List.mem_filter.mpr ⟨List.mem_append_right _ (List.mem_of_getElem? h), hg⟩
theorem sc_inS {w : Cond} (i : Nat) (h : (k2_sels lw_privs)[i]? = some w) (hg : goodWord w = true) : w ∈ sc_G := List.mem_filter.mpr ⟨List.mem_append_left _ (List.mem_of_getElem? h), hg⟩
theorem sc_G_good {w : Cond} (h : w ∈ sc_G) : (w.onTables && w.keeps) = true ∨ ∃ ty, w = .arrayClass ty := good_of_word (List.mem_filter.mp h).2
end
section
abbrev sc_L : Type := List (Nat × sc_V)
abbrev sc_KT : Type := sc_L → List sc_V → sc_I → sc_R → Prop
abbrev sc_RT : Type := Option sc_V → sc_I → sc_R → Prop
abbrev sc_CT : Type := Nat → List sc_V → sc_I → sc_R → sc_RT → Prop
/-- a step: the calls, the method's end, jumps, what is next; locals, stack, ints, references -/
abbrev sc_EN : Type := sc_CT → sc_RT → (Nat → sc_KT) → sc_KT → sc_KT
def sc_tv (ad : Nat → Nat) (v : sc_V) : Value := match v with
  | .inl x => .int x
  | .inr (k, i) => .ref (sc_ad ad k i)
theorem sc_tv_cat (ad : Nat → Nat) (v : sc_V) : (sc_tv ad v).category = 1 := by
  rcases v with x | ⟨k, i⟩ <;> rfl
-- shapes of the stack
def sc_p1 (st : List sc_V) (K : Int32 → List sc_V → Prop) : Prop := match st with
  | .inl x :: r => K x r
  | _ => False
def sc_p2 (st : List sc_V) (K : Int32 → Int32 → List sc_V → Prop) : Prop := match st with
  | .inl y :: .inl x :: r => K x y r
  | _ => False
def sc_pr (k : Nat) (st : List sc_V) (K : Nat → List sc_V → Prop) : Prop := match st with
  | .inr (k0, i) :: r => (match Nat.beq k0 k with
    | true => K i r
    | false => False)
  | _ => False
def sc_pri (k : Nat) (st : List sc_V) (K : Int32 → Nat → List sc_V → Prop) : Prop := match st with
  | .inl x :: .inr (k0, i) :: r => (match Nat.beq k0 k with
    | true => K x i r
    | false => False)
  | _ => False
def sc_prii (k : Nat) (st : List sc_V) (K : Int32 → Int32 → Nat → List sc_V → Prop) : Prop := match st with
  | .inl x :: .inl j :: .inr (k0, i) :: r => (match Nat.beq k0 k with
    | true => K x j i r
    | false => False)
  | _ => False
def sc_prr (k1 k : Nat) (st : List sc_V) (K : Nat → Nat → List sc_V → Prop) : Prop := match st with
  | .inr (k2, a) :: .inr (k0, i) :: r => (match Nat.beq k0 k && Nat.beq k2 k1 with
    | true => K a i r
    | false => False)
  | _ => False
def sc_prir (k1 k : Nat) (st : List sc_V) (K : Nat → Int32 → Nat → List sc_V → Prop) : Prop := match st with
  | .inr (k2, a) :: .inl j :: .inr (k0, i) :: r => (match Nat.beq k0 k && Nat.beq k2 k1 with
    | true => K a j i r
    | false => False)
  | _ => False
theorem sc_p1_e {st : List sc_V} {K : Int32 → List sc_V → Prop} (h : sc_p1 st K) : ∃ x r, st = .inl x :: r ∧ K x r := by
  unfold sc_p1 at h
  split at h
  · exact ⟨_, _, rfl, h⟩
  · exact h.elim
theorem sc_p2_e {st : List sc_V} {K : Int32 → Int32 → List sc_V → Prop} (h : sc_p2 st K) : ∃ x y r, st = .inl y :: .inl x :: r ∧ K x y r := by
  unfold sc_p2 at h
  split at h
  · exact ⟨_, _, _, rfl, h⟩
  · exact h.elim
theorem sc_pr_e {k : Nat} {st : List sc_V} {K : Nat → List sc_V → Prop} (h : sc_pr k st K) : ∃ i r, st = .inr (k, i) :: r ∧ K i r := by
  unfold sc_pr at h
  split at h
  · split at h
    · rename_i hb
      have e := Nat.eq_of_beq_eq_true hb
      subst e
      exact ⟨_, _, rfl, h⟩
    · exact h.elim
  · exact h.elim
theorem sc_pri_e {k : Nat} {st : List sc_V} {K : Int32 → Nat → List sc_V → Prop} (h : sc_pri k st K) : ∃ x i r, st = .inl x :: .inr (k, i) :: r ∧ K x i r := by
  unfold sc_pri at h
  split at h
  · split at h
    · rename_i hb
      have e := Nat.eq_of_beq_eq_true hb
      subst e
      exact ⟨_, _, _, rfl, h⟩
    · exact h.elim
  · exact h.elim
theorem sc_prii_e {k : Nat} {st : List sc_V} {K : Int32 → Int32 → Nat → List sc_V → Prop} (h : sc_prii k st K) : ∃ x j i r, st = .inl x :: .inl j :: .inr (k, i) :: r ∧ K x j i r := by
  unfold sc_prii at h
  split at h
  · split at h
    · rename_i hb
      have e := Nat.eq_of_beq_eq_true hb
      subst e
      exact ⟨_, _, _, _, rfl, h⟩
    · exact h.elim
  · exact h.elim
theorem sc_prr_e {k1 k : Nat} {st : List sc_V} {K : Nat → Nat → List sc_V → Prop} (h : sc_prr k1 k st K) : ∃ a i r, st = .inr (k1, a) :: .inr (k, i) :: r ∧ K a i r := by
  unfold sc_prr at h
  split at h
  · split at h
    · rename_i hb
      have hb := Bool.and_eq_true_iff.mp hb
      have e := Nat.eq_of_beq_eq_true hb.1
      have e2 := Nat.eq_of_beq_eq_true hb.2
      subst e; subst e2
      exact ⟨_, _, _, rfl, h⟩
    · exact h.elim
  · exact h.elim
theorem sc_prir_e {k1 k : Nat} {st : List sc_V} {K : Nat → Int32 → Nat → List sc_V → Prop} (h : sc_prir k1 k st K) : ∃ a j i r, st = .inr (k1, a) :: .inl j :: .inr (k, i) :: r ∧ K a j i r := by
  unfold sc_prir at h
  split at h
  · split at h
    · rename_i hb
      have hb := Bool.and_eq_true_iff.mp hb
      have e := Nat.eq_of_beq_eq_true hb.1
      have e2 := Nat.eq_of_beq_eq_true hb.2
      subst e; subst e2
      exact ⟨_, _, _, _, rfl, h⟩
    · exact h.elim
  · exact h.elim
-- locals
def sc_lk : sc_L → Nat → (sc_V → Prop) → Prop
  | [], _, _ => False
  | q :: r, i, K => match Nat.beq q.1 i with
    | true => K q.2
    | false => sc_lk r i K
def sc_rm : sc_L → Nat → (sc_L → Prop) → Prop
  | [], _, K => K []
  | q :: r, i, K => match Nat.beq q.1 i with
    | true => sc_rm r i K
    | false => sc_rm r i (fun r' => K (q :: r'))
theorem sc_lk_e : ∀ {lv : sc_L} {i : Nat} {K : sc_V → Prop}, sc_lk lv i K → ∃ v, (i, v) ∈ lv ∧ K v
  | [], _, _, h => h.elim
  | q :: r, i, K, h => by
    unfold sc_lk at h
    split at h
    · rename_i hb
      have e := Nat.eq_of_beq_eq_true hb
      exact ⟨q.2, by rw [← e]; exact List.mem_cons_self, h⟩
    · obtain ⟨v, h1, h2⟩ := sc_lk_e h
      exact ⟨v, List.mem_cons_of_mem _ h1, h2⟩
theorem sc_rm_e : ∀ {lv : sc_L} {i : Nat} {K : sc_L → Prop}, sc_rm lv i K → ∃ lv', K lv' ∧ ∀ q ∈ lv', q ∈ lv ∧ q.1 ≠ i
  | [], _, K, h => ⟨[], h, fun q hq => by cases hq⟩
  | q :: r, i, K, h => by
    unfold sc_rm at h
    split at h
    · obtain ⟨lv', h1, h2⟩ := sc_rm_e h
      exact ⟨lv', h1, fun z hz => ⟨List.mem_cons_of_mem _ (h2 z hz).1, (h2 z hz).2⟩⟩
    · rename_i hb
      obtain ⟨lv', h1, h2⟩ := sc_rm_e h
      refine ⟨q :: lv', h1, fun z hz => ?_⟩
      rcases List.mem_cons.mp hz with rfl | hz
      · exact ⟨List.mem_cons_self, fun e => by rw [e, Nat.beq_refl] at hb; cases hb⟩
      · exact ⟨List.mem_cons_of_mem _ (h2 z hz).1, (h2 z hz).2⟩
def sc_lm (ad : Nat → Nat) (lv : sc_L) : List (Nat × Value) := lv.map (fun q => (q.1, sc_tv ad q.2))
theorem sc_has_at {ad : Nat → Nat} {ls : Array Slot} {nL : Nat} {lv : sc_L} (h : lv_has ls nL (sc_lm ad lv)) {i : Nat} {v : sc_V} (hm : (i, v) ∈ lv) : ls[i]? = some (.val (sc_tv ad v)) := h.2.2 (i, sc_tv ad v) (List.mem_map.mpr ⟨(i, v), hm, rfl⟩)
theorem sc_has_set {ad : Nat → Nat} {ls : Array Slot} {nL i : Nat} {lv lv' : sc_L} {v : sc_V} (h : lv_has ls nL ((i, sc_tv ad v) :: (sc_lm ad lv).filter (fun q => !(q.1 == i) && !(q.1 + 1 == i && q.2.category == 2)))) (hs : ∀ q ∈ lv', q ∈ lv ∧ q.1 ≠ i) : lv_has ls nL (sc_lm ad ((i, v) :: lv')) := by
  refine ⟨h.1, h.2.1, fun q hq => h.2.2 q ?_⟩
  rcases List.mem_cons.mp hq with rfl | hq
  · exact List.mem_cons_self
  · obtain ⟨z, hz, rfl⟩ := List.mem_map.mp hq
    refine List.mem_cons_of_mem _ (List.mem_filter.mpr ⟨List.mem_map.mpr ⟨z, (hs z hz).1, rfl⟩, ?_⟩)
    have e1 : (z.1 == i) = false := by simpa using (hs z hz).2
    have e2 : ((sc_tv ad z.2).category == 2) = false := by rw [sc_tv_cat]; rfl
    simp only [e1, e2, Bool.and_false, Bool.not_false, Bool.and_self]
-- calls
def sc_pn : Nat → List sc_V → List sc_V → (List sc_V → List sc_V → Prop) → Prop
  | 0, st, acc, K => K acc st
  | n + 1, st, acc, K => match st with
    | v :: r => sc_pn n r (v :: acc) K
    | [] => False
theorem sc_pn_e : ∀ {n : Nat} {st acc : List sc_V} {K : List sc_V → List sc_V → Prop}, sc_pn n st acc K → ∃ as r, st = as.reverse ++ r ∧ as.length = n ∧ K (as ++ acc) r
  | 0, st, acc, K, h => ⟨[], st, rfl, rfl, h⟩
  | n + 1, [], acc, K, h => h.elim
  | n + 1, v :: r, acc, K, h => by
    obtain ⟨as, r', h1, h2, h3⟩ := sc_pn_e (n := n) (st := r) (acc := v :: acc) h
    refine ⟨as ++ [v], r', by rw [h1]; simp, by simp [h2], by simpa using h3⟩
def sc_psh (r : Option sc_V) (st : List sc_V) : List sc_V := match r with
  | some v => v :: st
  | none => st
theorem sc_psh_map (ad : Nat → Nat) (r : Option sc_V) (st : List sc_V) : (sc_psh r st).map (sc_tv ad) = (r.map (sc_tv ad)).toList ++ st.map (sc_tv ad) := by
  cases r <;> rfl
def sc_pv (k1 : Nat) (as : List sc_V) (K : Prop) : Prop := match as with
  | .inr (k0, _) :: _ => (match Nat.beq k0 k1 with
    | true => K
    | false => False)
  | _ => False
theorem sc_pv_e {k1 : Nat} {as : List sc_V} {K : Prop} (h : sc_pv k1 as K) : K ∧ ∃ i as', as = .inr (k1, i) :: as' := by
  unfold sc_pv at h
  split at h
  · split at h
    · rename_i hb
      have e := Nat.eq_of_beq_eq_true hb
      subst e
      exact ⟨h, _, _, rfl⟩
    · exact h.elim
  · exact h.elim
-- the steps
def sc_bad : sc_EN := fun _ _ _ _ _ _ _ _ => False
def sc_cst (v : Int32) : sc_EN := fun _ _ _ k lv st I D => k lv (.inl v :: st) I D
def sc_ldI (i : Nat) : sc_EN := fun _ _ _ k lv st I D => sc_lk lv i (fun v => match v with
  | .inl x => k lv (.inl x :: st) I D
  | .inr _ => False)
def sc_ldA (i : Nat) : sc_EN := fun _ _ _ k lv st I D => sc_lk lv i (fun v => match v with
  | .inr x => k lv (.inr x :: st) I D
  | .inl _ => False)
def sc_stI (i : Nat) : sc_EN := fun _ _ _ k lv st I D => sc_p1 st (fun x r => sc_rm lv i (fun lv' => k ((i, .inl x) :: lv') r I D))
def sc_stA (k1 i : Nat) : sc_EN := fun _ _ _ k lv st I D => sc_pr k1 st (fun x r => sc_rm lv i (fun lv' => k ((i, .inr (k1, x)) :: lv') r I D))
def sc_inc (i : Nat) (n : Int32) : sc_EN := fun _ _ _ k lv st I D => sc_lk lv i (fun v => match v with
  | .inl x => sc_rm lv i (fun lv' => k ((i, .inl (x + n)) :: lv') st I D)
  | .inr _ => False)
def sc_iadd : sc_EN := fun _ _ _ k lv st I D => sc_p2 st (fun x y r => k lv (.inl (x + y) :: r) I D)
def sc_isub : sc_EN := fun _ _ _ k lv st I D => sc_p2 st (fun x y r => k lv (.inl (x - y) :: r) I D)
def sc_imul : sc_EN := fun _ _ _ k lv st I D => sc_p2 st (fun x y r => k lv (.inl (x * y) :: r) I D)
def sc_iand : sc_EN := fun _ _ _ k lv st I D => sc_p2 st (fun x y r => k lv (.inl (x &&& y) :: r) I D)
def sc_ior : sc_EN := fun _ _ _ k lv st I D => sc_p2 st (fun x y r => k lv (.inl (x ||| y) :: r) I D)
def sc_ixor : sc_EN := fun _ _ _ k lv st I D => sc_p2 st (fun x y r => k lv (.inl (x ^^^ y) :: r) I D)
def sc_ishl : sc_EN := fun _ _ _ k lv st I D => sc_p2 st (fun x y r => k lv (.inl (x <<< (y &&& 31)) :: r) I D)
def sc_idiv : sc_EN := fun _ _ _ k lv st I D => sc_p2 st (fun x y r => (¬ y = 0) ∧ k lv (.inl (x / y) :: r) I D)
def sc_irem : sc_EN := fun _ _ _ k lv st I D => sc_p2 st (fun x y r => (¬ y = 0) ∧ k lv (.inl (x - x / y * y) :: r) I D)
def sc_if_eq (t : Nat) : sc_EN := fun _ _ j k lv st I D => sc_p1 st (fun x r => (x = 0 → j t lv r I D) ∧ (¬ x = 0 → k lv r I D))
def sc_if_ne (t : Nat) : sc_EN := fun _ _ j k lv st I D => sc_p1 st (fun x r => (x = 0 → k lv r I D) ∧ (¬ x = 0 → j t lv r I D))
def sc_if_lt (t : Nat) : sc_EN := fun _ _ j k lv st I D => sc_p1 st (fun x r => (x < 0 → j t lv r I D) ∧ (¬ x < 0 → k lv r I D))
def sc_if_ge (t : Nat) : sc_EN := fun _ _ j k lv st I D => sc_p1 st (fun x r => (0 ≤ x → j t lv r I D) ∧ (¬ 0 ≤ x → k lv r I D))
def sc_if_gt (t : Nat) : sc_EN := fun _ _ j k lv st I D => sc_p1 st (fun x r => (0 < x → j t lv r I D) ∧ (¬ 0 < x → k lv r I D))
def sc_if_le (t : Nat) : sc_EN := fun _ _ j k lv st I D => sc_p1 st (fun x r => (x ≤ 0 → j t lv r I D) ∧ (¬ x ≤ 0 → k lv r I D))
def sc_ic_eq (t : Nat) : sc_EN := fun _ _ j k lv st I D => sc_p2 st (fun x y r => (x = y → j t lv r I D) ∧ (¬ x = y → k lv r I D))
def sc_ic_ne (t : Nat) : sc_EN := fun _ _ j k lv st I D => sc_p2 st (fun x y r => (x = y → k lv r I D) ∧ (¬ x = y → j t lv r I D))
def sc_ic_lt (t : Nat) : sc_EN := fun _ _ j k lv st I D => sc_p2 st (fun x y r => (x < y → j t lv r I D) ∧ (¬ x < y → k lv r I D))
def sc_ic_ge (t : Nat) : sc_EN := fun _ _ j k lv st I D => sc_p2 st (fun x y r => (y ≤ x → j t lv r I D) ∧ (¬ y ≤ x → k lv r I D))
def sc_ic_gt (t : Nat) : sc_EN := fun _ _ j k lv st I D => sc_p2 st (fun x y r => (y < x → j t lv r I D) ∧ (¬ y < x → k lv r I D))
def sc_ic_le (t : Nat) : sc_EN := fun _ _ j k lv st I D => sc_p2 st (fun x y r => (x ≤ y → j t lv r I D) ∧ (¬ x ≤ y → k lv r I D))
def sc_goto (t : Nat) : sc_EN := fun _ _ j _ lv st I D => j t lv st I D
def sc_dup : sc_EN := fun _ _ _ k lv st I D => match st with
  | v :: r => k lv (v :: v :: r) I D
  | [] => False
def sc_get (k1 s : Nat) : sc_EN := fun _ _ _ k lv st I D => sc_pr k1 st (fun i r => match sc_fx k1 s with
  | none => k lv (.inl (I k1 i s) :: r) I D
  | some (k2, some i2) => k lv (.inr (k2, i2) :: r) I D
  | some (k2, none) => k lv (.inr (k2, D k1 i s) :: r) I D)
def sc_putI (k1 s : Nat) : sc_EN := fun _ _ _ k lv st I D => sc_pri k1 st (fun x i r => k lv r (sc_u I k1 i s x) D)
def sc_putZ (k1 s : Nat) : sc_EN := fun _ _ _ k lv st I D => sc_pri k1 st (fun x i r => (x = 0 ∨ x = 1) ∧ k lv r (sc_u I k1 i s x) D)
def sc_putN : sc_EN := fun _ _ _ k lv st I D => sc_prr 1 0 st (fun a i r => k lv r I (sc_u D 0 i 1 a))
def sc_ald : sc_EN := fun _ _ _ k lv st I D => sc_pri 4 st (fun x i r => vp_in x (sc_ln i) ∧ k lv (.inl (I 4 i x.toNatClampNeg) :: r) I D)
def sc_ast : sc_EN := fun _ _ _ k lv st I D => sc_prii 4 st (fun v x i r => vp_in x (sc_ln i) ∧ k lv r (sc_u I 4 i x.toNatClampNeg v) D)
def sc_zld : sc_EN := fun _ _ _ k lv st I D => sc_pri 5 st (fun x i r => vp_in x 5 ∧ k lv (.inl (I 5 0 x.toNatClampNeg) :: r) I D)
def sc_zst : sc_EN := fun _ _ _ k lv st I D => sc_prii 5 st (fun v x i r => (v = 0 ∨ v = 1) ∧ vp_in x 5 ∧ k lv r (sc_u I 5 0 x.toNatClampNeg v) D)
def sc_fld : sc_EN := fun _ _ _ k lv st I D => sc_pri 6 st (fun x i r => vp_in x 5 ∧ k lv (.inr (0, D 6 0 x.toNatClampNeg) :: r) I D)
def sc_fst : sc_EN := fun _ _ _ k lv st I D => sc_prir 0 6 st (fun f x i r => vp_in x 5 ∧ k lv r I (sc_u D 6 0 x.toNatClampNeg f))
def sc_nld : sc_EN := fun _ _ _ k lv st I D => sc_pri 7 st (fun x i r => vp_in x 64 ∧ k lv (.inr (1, D 7 0 x.toNatClampNeg) :: r) I D)
def sc_retI : sc_EN := fun _ Q _ _ _ st I D => sc_p1 st (fun x r => match r with
  | [] => Q (some (.inl x)) I D
  | _ => False)
def sc_retZ : sc_EN := fun _ Q _ _ _ st I D => sc_p1 st (fun x r => match r with
  | [] => (x = 0 ∨ x = 1) ∧ Q (some (.inl x)) I D
  | _ => False)
def sc_retV : sc_EN := fun _ Q _ _ _ st I D => match st with
  | [] => Q none I D
  | _ => False
def sc_inv (mid k1 n : Nat) : sc_EN := fun C _ _ k lv st I D => sc_pn n st [] (fun as r => match Nat.ble r.length 8 with
  | true => sc_pv k1 as (C mid as I D (fun v I' D' => k lv (sc_psh v r) I' D'))
  | false => False)
def sc_ins (mid n : Nat) : sc_EN := fun C _ _ k lv st I D => sc_pn n st [] (fun as r => match Nat.ble r.length 8 with
  | true => C mid as I D (fun v I' D' => k lv (sc_psh v r) I' D')
  | false => False)
noncomputable def sc_swt (x : Int32) (J : Nat → Prop) (dft : Nat) (ts : List (Int32 × Nat)) : Prop := List.rec (motive := fun _ => Prop) (J dft) (fun q _ ih => (x = q.1 → J q.2) ∧ (¬ x = q.1 → ih)) ts
noncomputable def sc_sw (ts : List (Int32 × Nat)) (dft : Nat) : sc_EN := fun _ _ j _ lv st I D => sc_p1 st (fun x r => sc_swt x (fun t => j t lv r I D) dft ts)
-- the methods: names, code, locals, what they answer (printed by program)
def sc_nM : Nat := 72
def sc_y (mid : Nat) : MethodName := match mid with
  | 0 => yX0_does
  | 1 => yX1_writesD
  | 2 => yX0_writes
  | 3 => yX1_isBranch
  | 4 => yX1_usesT
  | 5 => yX1_usesS
  | 6 => yX1_touchesData
  | 7 => yX1_workCycles
  | 8 => yX2_checkIndex
  | 9 => yX2_checkArgument
  | 10 => yX2_poke
  | 11 => yX2_peek
  | 12 => yX2_set
  | 13 => yX2_register
  | 14 => yX2_emptyStagesBelow
  | 15 => yX2_start
  | 16 => yX2_handler
  | 17 => yX2_takeFault
  | 18 => yX2_retire
  | 19 => yX2_leaveEndsCycle
  | 20 => yX2_moveOnIfFree
  | 21 => yX2_passMemory
  | 22 => yX2_needsLoadAhead
  | 23 => yX2_handedOn
  | 24 => yX2_isWord
  | 25 => yX2_faultOf
  | 26 => yX2_valueOf
  | 27 => yX2_goesElsewhere
  | 28 => yJ9_floorMod_7cf53
  | 29 => yX2_learn
  | 30 => yX2_target
  | 31 => yX2_holdAgainstGuess
  | 32 => yX2_finishWork
  | 33 => yX2_workInReached
  | 34 => yX2_guessNext
  | 35 => yX2_fetchIfFree
  | 36 => yX2_runCycle
  | 37 => yX2_cycles
  | 38 => yX2_stage
  | 39 => yX2_counter
  | 40 => yX2_retired
  | 41 => yX2_count
  | 42 => yX3_thrown
  | 43 => yX3_out
  | 44 => yX3_in
  | 45 => yX3_put
  | 46 => yX3_poke
  | 47 => yX3_peek
  | 48 => yX3_set
  | 49 => yX3_register
  | 50 => yX3_empty
  | 51 => yX3_start
  | 52 => yX3_handler
  | 53 => yX3_writes
  | 54 => yX3_usesFirst
  | 55 => yX3_usesSecond
  | 56 => yX3_move
  | 57 => yX3_leave
  | 58 => yX3_remember
  | 59 => yX3_read
  | 60 => yX3_reckon
  | 61 => yX3_work
  | 62 => yX3_reach
  | 63 => yX3_fetch
  | 64 => yX3_cycle
  | 65 => yX3_cycles
  | 66 => yX3_stage
  | 67 => yX3_counter
  | 68 => yX3_retired
  | 69 => yX3_count
  | 70 => yJ9_max_7cf53
  | _ => yJ9_min_7cf53
def sc_c (mid : Nat) : ByteArray := match mid with
  | 0 => cX0_does
  | 1 => cX1_writesD
  | 2 => cX0_writes
  | 3 => cX1_isBranch
  | 4 => cX1_usesT
  | 5 => cX1_usesS
  | 6 => cX1_touchesData
  | 7 => cX1_workCycles
  | 8 => cX2_checkIndex
  | 9 => cX2_checkArgument
  | 10 => cX2_poke
  | 11 => cX2_peek
  | 12 => cX2_set
  | 13 => cX2_register
  | 14 => cX2_emptyStagesBelow
  | 15 => cX2_start
  | 16 => cX2_handler
  | 17 => cX2_takeFault
  | 18 => cX2_retire
  | 19 => cX2_leaveEndsCycle
  | 20 => cX2_moveOnIfFree
  | 21 => cX2_passMemory
  | 22 => cX2_needsLoadAhead
  | 23 => cX2_handedOn
  | 24 => cX2_isWord
  | 25 => cX2_faultOf
  | 26 => cX2_valueOf
  | 27 => cX2_goesElsewhere
  | 28 => cJ9_floorMod_7cf53
  | 29 => cX2_learn
  | 30 => cX2_target
  | 31 => cX2_holdAgainstGuess
  | 32 => cX2_finishWork
  | 33 => cX2_workInReached
  | 34 => cX2_guessNext
  | 35 => cX2_fetchIfFree
  | 36 => cX2_runCycle
  | 37 => cX2_cycles
  | 38 => cX2_stage
  | 39 => cX2_counter
  | 40 => cX2_retired
  | 41 => cX2_count
  | 42 => cX3_thrown
  | 43 => cX3_out
  | 44 => cX3_in
  | 45 => cX3_put
  | 46 => cX3_poke
  | 47 => cX3_peek
  | 48 => cX3_set
  | 49 => cX3_register
  | 50 => cX3_empty
  | 51 => cX3_start
  | 52 => cX3_handler
  | 53 => cX3_writes
  | 54 => cX3_usesFirst
  | 55 => cX3_usesSecond
  | 56 => cX3_move
  | 57 => cX3_leave
  | 58 => cX3_remember
  | 59 => cX3_read
  | 60 => cX3_reckon
  | 61 => cX3_work
  | 62 => cX3_reach
  | 63 => cX3_fetch
  | 64 => cX3_cycle
  | 65 => cX3_cycles
  | 66 => cX3_stage
  | 67 => cX3_counter
  | 68 => cX3_retired
  | 69 => cX3_count
  | 70 => cJ9_max_7cf53
  | _ => cJ9_min_7cf53
def sc_nL (mid : Nat) : Nat := match mid with
  | 0 => 2
  | 1 => 1
  | 2 => 2
  | 3 => 1
  | 4 => 1
  | 5 => 1
  | 6 => 1
  | 7 => 1
  | 8 => 2
  | 9 => 3
  | 10 => 4
  | 11 => 2
  | 12 => 4
  | 13 => 2
  | 14 => 3
  | 15 => 2
  | 16 => 3
  | 17 => 2
  | 18 => 3
  | 19 => 2
  | 20 => 3
  | 21 => 2
  | 22 => 3
  | 23 => 3
  | 24 => 1
  | 25 => 3
  | 26 => 3
  | 27 => 3
  | 28 => 3
  | 29 => 5
  | 30 => 3
  | 31 => 3
  | 32 => 5
  | 33 => 2
  | 34 => 4
  | 35 => 3
  | 36 => 1
  | 37 => 4
  | 38 => 3
  | 39 => 2
  | 40 => 2
  | 41 => 2
  | 42 => 1
  | 43 => 4
  | 44 => 3
  | 45 => 7
  | 46 => 4
  | 47 => 2
  | 48 => 4
  | 49 => 2
  | 50 => 2
  | 51 => 2
  | 52 => 3
  | 53 => 1
  | 54 => 1
  | 55 => 1
  | 56 => 3
  | 57 => 2
  | 58 => 1
  | 59 => 3
  | 60 => 3
  | 61 => 10
  | 62 => 5
  | 63 => 4
  | 64 => 2
  | 65 => 4
  | 66 => 2
  | 67 => 2
  | 68 => 2
  | 69 => 2
  | 70 => 2
  | _ => 2
def sc_rt (mid : Nat) : Option FieldType := match mid with
  | 0 => (some .boolean)
  | 1 => (some .boolean)
  | 2 => (some .boolean)
  | 3 => (some .boolean)
  | 4 => (some .boolean)
  | 5 => (some .boolean)
  | 6 => (some .boolean)
  | 7 => (some .int)
  | 8 => none
  | 9 => none
  | 10 => (some .int)
  | 11 => (some .int)
  | 12 => (some .int)
  | 13 => (some .int)
  | 14 => none
  | 15 => none
  | 16 => (some .int)
  | 17 => none
  | 18 => none
  | 19 => (some .boolean)
  | 20 => none
  | 21 => none
  | 22 => (some .boolean)
  | 23 => (some .int)
  | 24 => (some .boolean)
  | 25 => (some .int)
  | 26 => (some .int)
  | 27 => (some .boolean)
  | 28 => (some .int)
  | 29 => none
  | 30 => (some .int)
  | 31 => none
  | 32 => none
  | 33 => none
  | 34 => (some .int)
  | 35 => none
  | 36 => none
  | 37 => (some .int)
  | 38 => (some .int)
  | 39 => (some .int)
  | 40 => (some .int)
  | 41 => (some .int)
  | 42 => (some .int)
  | 43 => (some .boolean)
  | 44 => (some .boolean)
  | 45 => none
  | 46 => (some .int)
  | 47 => (some .int)
  | 48 => (some .int)
  | 49 => (some .int)
  | 50 => none
  | 51 => none
  | 52 => (some .int)
  | 53 => (some .boolean)
  | 54 => (some .boolean)
  | 55 => (some .boolean)
  | 56 => none
  | 57 => (some .boolean)
  | 58 => none
  | 59 => (some .int)
  | 60 => (some .int)
  | 61 => (some .int)
  | 62 => none
  | 63 => none
  | 64 => none
  | 65 => (some .int)
  | 66 => (some .int)
  | 67 => (some .int)
  | 68 => (some .int)
  | 69 => (some .int)
  | 70 => (some .int)
  | _ => (some .int)
def sc_NF : List (String × Nat × String × String × String × String) := [("StageChip$Flight", 23, "StageChip$Instruction", "operation", "I", "StageChip"), ("StageChip", 209, "StageChip$Instruction", "operation", "I", "StageChip"), ("StageChip$Flight", 32, "StageChip$Instruction", "d", "I", "StageChip"), ("StageChip", 152, "StageChip$Instruction", "d", "I", "StageChip"), ("StageChip", 182, "StageChip$Instruction", "s", "I", "StageChip"), ("StageChip", 188, "StageChip$Instruction", "t", "I", "StageChip"), ("StageChip", 206, "StageChip$Instruction", "n", "I", "StageChip"), ("StageChip", 80, "StageChip$Flight", "present", "Z", "StageChip"), ("StageChip", 149, "StageChip$Flight", "instruction", "LStageChip$Instruction;", "StageChip"), ("StageChip", 83, "StageChip$Flight", "place", "I", "StageChip"), ("StageChip", 240, "StageChip$Flight", "guess", "I", "StageChip"), ("StageChip", 168, "StageChip$Flight", "worked", "I", "StageChip"), ("StageChip", 136, "StageChip$Flight", "fault", "I", "StageChip"), ("StageChip", 161, "StageChip$Flight", "address", "I", "StageChip"), ("StageChip", 158, "StageChip$Flight", "value", "I", "StageChip")]
def sc_NM : List (String × Nat × MethodName × String) := [("StageChip", 11, ⟨"StageChip$Instruction", "<init>", "(IIIII)V"⟩, "StageChip"), ("StageChip", 38, ⟨"StageChip$Flight", "<init>", "(LStageChip$Instruction;)V"⟩, "StageChip"), ("StageChip", 142, ⟨"StageChip$Flight", "does", "(I)Z"⟩, "StageChip"), ("StageChip", 155, ⟨"StageChip$Flight", "writes", "(I)Z"⟩, "StageChip"), ("StageChip$Flight", 28, ⟨"StageChip$Instruction", "writesD", "()Z"⟩, "StageChip"), ("StageChip", 178, ⟨"StageChip$Instruction", "usesS", "()Z"⟩, "StageChip"), ("StageChip", 185, ⟨"StageChip$Instruction", "usesT", "()Z"⟩, "StageChip"), ("StageChip", 171, ⟨"StageChip$Instruction", "workCycles", "()I"⟩, "StageChip"), ("StageChip", 203, ⟨"StageChip$Instruction", "touchesData", "()Z"⟩, "StageChip"), ("StageChip", 216, ⟨"StageChip$Instruction", "isBranch", "()Z"⟩, "StageChip")]
theorem sc_lays0 : ∀ k, k < 8 → u_lay RX0 TX0 k ∈ sc_G := fun k hk => match k, hk with
  | 0, _ => sc_inG 67 (by decide +kernel) (by decide +kernel)
  | 1, _ => sc_inG 69 (by decide +kernel) (by decide +kernel)
  | 2, _ => sc_inG 71 (by decide +kernel) (by decide +kernel)
  | 3, _ => sc_inG 73 (by decide +kernel) (by decide +kernel)
  | 4, _ => sc_inG 75 (by decide +kernel) (by decide +kernel)
  | 5, _ => sc_inG 77 (by decide +kernel) (by decide +kernel)
  | 6, _ => sc_inG 79 (by decide +kernel) (by decide +kernel)
  | 7, _ => sc_inG 81 (by decide +kernel) (by decide +kernel)
  | n + 8, h => absurd h (by omega)
theorem sc_lays1 : ∀ k, k < 5 → u_lay RX1 TX1 k ∈ sc_G := fun k hk => match k, hk with
  | 0, _ => sc_inG 37 (by decide +kernel) (by decide +kernel)
  | 1, _ => sc_inG 39 (by decide +kernel) (by decide +kernel)
  | 2, _ => sc_inG 41 (by decide +kernel) (by decide +kernel)
  | 3, _ => sc_inG 43 (by decide +kernel) (by decide +kernel)
  | 4, _ => sc_inG 45 (by decide +kernel) (by decide +kernel)
  | n + 5, h => absurd h (by omega)
theorem sc_lays2 : ∀ k, k < 17 → u_lay RX2 TX2 k ∈ sc_G := fun k hk => match k, hk with
  | 0, _ => sc_inG 102 (by decide +kernel) (by decide +kernel)
  | 1, _ => sc_inG 104 (by decide +kernel) (by decide +kernel)
  | 2, _ => sc_inG 106 (by decide +kernel) (by decide +kernel)
  | 3, _ => sc_inG 108 (by decide +kernel) (by decide +kernel)
  | 4, _ => sc_inG 110 (by decide +kernel) (by decide +kernel)
  | 5, _ => sc_inG 112 (by decide +kernel) (by decide +kernel)
  | 6, _ => sc_inG 114 (by decide +kernel) (by decide +kernel)
  | 7, _ => sc_inG 116 (by decide +kernel) (by decide +kernel)
  | 8, _ => sc_inG 118 (by decide +kernel) (by decide +kernel)
  | 9, _ => sc_inG 120 (by decide +kernel) (by decide +kernel)
  | 10, _ => sc_inG 122 (by decide +kernel) (by decide +kernel)
  | 11, _ => sc_inG 124 (by decide +kernel) (by decide +kernel)
  | 12, _ => sc_inG 126 (by decide +kernel) (by decide +kernel)
  | 13, _ => sc_inG 128 (by decide +kernel) (by decide +kernel)
  | 14, _ => sc_inG 130 (by decide +kernel) (by decide +kernel)
  | 15, _ => sc_inG 132 (by decide +kernel) (by decide +kernel)
  | 16, _ => sc_inG 134 (by decide +kernel) (by decide +kernel)
  | n + 17, h => absurd h (by omega)
theorem sc_lays3 : ∀ k, k < 33 → u_lay RX3 TX3 k ∈ sc_G := fun k hk => match k, hk with
  | 0, _ => sc_inG 475 (by decide +kernel) (by decide +kernel)
  | 1, _ => sc_inG 477 (by decide +kernel) (by decide +kernel)
  | 2, _ => sc_inG 479 (by decide +kernel) (by decide +kernel)
  | 3, _ => sc_inG 481 (by decide +kernel) (by decide +kernel)
  | 4, _ => sc_inG 483 (by decide +kernel) (by decide +kernel)
  | 5, _ => sc_inG 485 (by decide +kernel) (by decide +kernel)
  | 6, _ => sc_inG 487 (by decide +kernel) (by decide +kernel)
  | 7, _ => sc_inG 489 (by decide +kernel) (by decide +kernel)
  | 8, _ => sc_inG 491 (by decide +kernel) (by decide +kernel)
  | 9, _ => sc_inG 493 (by decide +kernel) (by decide +kernel)
  | 10, _ => sc_inG 495 (by decide +kernel) (by decide +kernel)
  | 11, _ => sc_inG 497 (by decide +kernel) (by decide +kernel)
  | 12, _ => sc_inG 499 (by decide +kernel) (by decide +kernel)
  | 13, _ => sc_inG 501 (by decide +kernel) (by decide +kernel)
  | 14, _ => sc_inG 503 (by decide +kernel) (by decide +kernel)
  | 15, _ => sc_inG 505 (by decide +kernel) (by decide +kernel)
  | 16, _ => sc_inG 507 (by decide +kernel) (by decide +kernel)
  | 17, _ => sc_inG 509 (by decide +kernel) (by decide +kernel)
  | 18, _ => sc_inG 511 (by decide +kernel) (by decide +kernel)
  | 19, _ => sc_inG 513 (by decide +kernel) (by decide +kernel)
  | 20, _ => sc_inG 515 (by decide +kernel) (by decide +kernel)
  | 21, _ => sc_inG 517 (by decide +kernel) (by decide +kernel)
  | 22, _ => sc_inG 519 (by decide +kernel) (by decide +kernel)
  | 23, _ => sc_inG 521 (by decide +kernel) (by decide +kernel)
  | 24, _ => sc_inG 523 (by decide +kernel) (by decide +kernel)
  | 25, _ => sc_inG 525 (by decide +kernel) (by decide +kernel)
  | 26, _ => sc_inG 527 (by decide +kernel) (by decide +kernel)
  | 27, _ => sc_inG 529 (by decide +kernel) (by decide +kernel)
  | 28, _ => sc_inG 531 (by decide +kernel) (by decide +kernel)
  | 29, _ => sc_inG 533 (by decide +kernel) (by decide +kernel)
  | 30, _ => sc_inG 535 (by decide +kernel) (by decide +kernel)
  | 31, _ => sc_inG 537 (by decide +kernel) (by decide +kernel)
  | 32, _ => sc_inG 539 (by decide +kernel) (by decide +kernel)
  | n + 33, h => absurd h (by omega)
theorem sc_lays {k1 : Nat} (hk1 : k1 < 4) (k : Nat) (hk : k < (sc_cl k1).2.2) : u_lay (sc_cl k1).1 (sc_cl k1).2.1 k ∈ sc_G := by
  rcases (show k1 = 0 ∨ k1 = 1 ∨ k1 = 2 ∨ k1 = 3 by omega) with rfl | rfl | rfl | rfl
  · exact sc_lays0 k hk
  · exact sc_lays1 k hk
  · exact sc_lays2 k hk
  · exact sc_lays3 k hk
def sc_ty0 (k : Nat) : Nat → FieldType := match k with
  | 0 => tyX0 | 1 => tyX1 | 2 => tyX2 | _ => tyX3
theorem sc_ty_ok {k1 : Nat} (hk1 : k1 < 4) : ∀ k, k < (sc_cl k1).2.2 → parseFieldDescriptor ((sc_cl k1).2.1 k).2.2.1 = some (sc_ty0 k1 k) := by
  rcases (show k1 = 0 ∨ k1 = 1 ∨ k1 = 2 ∨ k1 = 3 by omega) with rfl | rfl | rfl | rfl
  · exact tyX0_ok
  · exact tyX1_ok
  · exact tyX2_ok
  · exact tyX3_ok
theorem sc_nm_ok {k1 : Nat} (hk1 : k1 < 4) : ∀ a, a < (sc_cl k1).2.2 → ∀ b, b < (sc_cl k1).2.2 → a ≠ b → ((sc_cl k1).2.1 a).2.1 ≠ ((sc_cl k1).2.1 b).2.1 := by
  rcases (show k1 = 0 ∨ k1 = 1 ∨ k1 = 2 ∨ k1 = 3 by omega) with rfl | rfl | rfl | rfl
  · exact nmX0
  · exact nmX1
  · exact nmX2
  · exact nmX3
def sc_ws (y : MethodName) (cc : ByteArray) (nL : Nat) (rt : Option FieldType) : List Cond := .code y cc nL rt :: sc_G
def sc_room (d : Nat) : Room := { frames := d, cells := 0, slots := 0, locals := 30 * d }
def sc_N (U : State) : Prop := (∀ q ∈ sc_NF, va_Nw (.fieldLinkNest q.1 q.2.1 q.2.2.1 q.2.2.2.1 q.2.2.2.2.1 q.2.2.2.2.2) U) ∧ ∀ q ∈ sc_NM, va_Nw (.methodLinkNest q.1 q.2.1 q.2.2.1 q.2.2.2) U
def sc_KN (dC : Nat → ClassId) (dI : Nat → Nat → Nat) (cA : Nat → ClassId) (U : State) : Prop := va_K (dC, dI) vwCl (sc_tys cA) U ∧ sc_N U
theorem sc_KN_warm {dC : Nat → ClassId} {dI : Nat → Nat → Nat} {cA : Nat → ClassId} {s U : State} (hW : s.WarmedH U.vm) (h : sc_KN dC dI cA s) : sc_KN dC dI cA U :=
  ⟨va_K.moved hW.alike h.1, fun q hq => va_Nw.warmF hW (h.2.1 q hq), fun q hq => va_Nw.warmM hW (h.2.2 q hq)⟩
theorem sc_KN_same {dC : Nat → ClassId} {dI : Nat → Nat → Nat} {cA : Nat → ClassId} {s U : State} (hv : s.vm = U.vm) (h : sc_KN dC dI cA s) : sc_KN dC dI cA U :=
  ⟨va_K.moved (by rw [← hv]; exact Vm.Alike.refl s.vm) h.1, fun q hq => va_Nw.same rfl hv (h.2.1 q hq), fun q hq => va_Nw.same rfl hv (h.2.2 q hq)⟩
def sc_Qc (dC : Nat → ClassId) (dI : Nat → Nat → Nat) (ad : Nat → Nat) (cA : Nat → ClassId) (LP : List Nat) (o : Nat → Int64) (A : Nat → Prop) (Q : sc_RT) : Array Value → State → Outcome → State → Prop := fun _ st oc t => ∃ (r : Option sc_V) (I : sc_I) (D : sc_R), oc = .returned (r.map (sc_tv ad)) ∧ Q r I D ∧ (∀ v, r = some v → sc_ok LP v) ∧ sc_vd LP D ∧ va_P (dC, dI) vwCl (sc_w ad cA LP o I D) t.heap ∧ va_F A st t
def sc_Pc (dC : Nat → ClassId) (dI : Nat → Nat → Nat) (ad : Nat → Nat) (cA : Nat → ClassId) (LP : List Nat) (o : Nat → Int64) (A : Nat → Prop) (as : List sc_V) (I : sc_I) (D : sc_R) : Array Value → State → Prop := va_Pc (as.map (sc_tv ad)) (fun U => sc_KN dC dI cA U ∧ va_P (dC, dI) vwCl (sc_w ad cA LP o I D) U.heap)
def sc_Met (l : Launch) (d : Nat) (dC : Nat → ClassId) (dI : Nat → Nat → Nat) (ad : Nat → Nat) (cA : Nat → ClassId) (LP : List Nat) (o : Nat → Int64) (A : Nat → Prop) (mid : Nat) (as : List sc_V) (I : sc_I) (D : sc_R) (K : sc_RT) : Prop :=
  Met l (sc_y mid) (sc_ws (sc_y mid) (sc_c mid) (sc_nL mid) (sc_rt mid)) (sc_room d) (sc_Pc dC dI ad cA LP o A as I D) (sc_Qc dC dI ad cA LP o A K) 0 0 A
/-- the calls do what they say -/
def sc_CO (l : Launch) (d : Nat) (dC : Nat → ClassId) (dI : Nat → Nat → Nat) (ad : Nat → Nat) (cA : Nat → ClassId) (LP : List Nat) (o : Nat → Int64) (A : Nat → Prop) (C : sc_CT) : Prop := ∀ mid as I D K, mid < sc_nM → C mid as I D K → (∀ v ∈ as, sc_ok LP v) → sc_vd LP D → sc_Met l d dC dI ad cA LP o A mid as I D K
def sc_Cx (l : Launch) (d : Nat) (p : Program) (e : Env) (s : State) (m : MethodId) (args : Array Value) (below : List Frame) (meth : Method) (c : Code) (dC : Nat → ClassId) (dI : Nat → Nat → Nat) (ad : Nat → Nat) (cA : Nat → ClassId) (LP : List Nat) (o : Nat → Int64) (A : Nat → Prop) (y : MethodName) (cc : ByteArray) (nL : Nat) (rt : Option FieldType) : Prop :=
  p.tables.exec = Jvm.exec ∧ c.code = cc ∧ meth.sig.returnType = rt ∧ c.maxLocals = nL ∧ s.vm.findClass y.cls = some m.cls ∧ (∀ w ∈ sc_ws y cc nL rt, w.before args s = true) ∧ meth.locks = false ∧ sc_KN dC dI cA s ∧ (∀ I D, va_D A (sc_w ad cA LP o I D))
def sc_At (l : Launch) (d : Nat) (p : Program) (e : Env) (s : State) (m : MethodId) (args : Array Value) (below : List Frame) (meth : Method) (c : Code) (dC : Nat → ClassId) (dI : Nat → Nat → Nat) (ad : Nat → Nat) (cA : Nat → ClassId) (LP : List Nat) (o : Nat → Int64) (A : Nat → Prop) (Q : sc_RT) (nL pc : Nat) (lv : sc_L) (st : List sc_V) (I : sc_I) (D : sc_R) : Prop :=
  sc_vd LP D → (∀ v ∈ st, sc_ok LP v) → (∀ q ∈ lv, sc_ok LP q.2) → ∀ (H : Heap) (locs : List Loc) (ls : Array Slot), va_P (dC, dI) vwCl (sc_w ad cA LP o I D) H → va_S A s.heap H locs → lv_has ls nL (sc_lm ad lv) →
    W p l e (sc_room (d + 1)) s m args below meth c H locs 0 0 (MQ below (sc_Qc dC dI ad cA LP o A Q) args s 0 0 A) (F0 m pc ls (st.map (sc_tv ad)))
def sc_Snd (y : MethodName) (cc : ByteArray) (nL : Nat) (rt : Option FieldType) (pc nx : Nat) (f : sc_EN) : Prop := ∀ (l : Launch) (d : Nat) (p : Program) (e : Env) (s : State) (m : MethodId) (args : Array Value) (below : List Frame) (meth : Method) (c : Code) (dC : Nat → ClassId) (dI : Nat → Nat → Nat) (ad : Nat → Nat) (cA : Nat → ClassId) (LP : List Nat) (o : Nat → Int64) (A : Nat → Prop) (C : sc_CT) (Q : sc_RT), sc_Cx l d p e s m args below meth c dC dI ad cA LP o A y cc nL rt → sc_CO l d dC dI ad cA LP o A C →
  ∀ (j : Nat → sc_KT) (k : sc_KT), (∀ t lv st I D, j t lv st I D → sc_At l d p e s m args below meth c dC dI ad cA LP o A Q nL t lv st I D) → (∀ lv st I D, k lv st I D → sc_At l d p e s m args below meth c dC dI ad cA LP o A Q nL nx lv st I D) →
  ∀ lv st I D, f C Q j k lv st I D → sc_At l d p e s m args below meth c dC dI ad cA LP o A Q nL pc lv st I D
theorem sc_s_bad {y : MethodName} {cc : ByteArray} {nL : Nat} {rt : Option FieldType} {pc nx : Nat} : sc_Snd y cc nL rt pc nx sc_bad := by
  intro l d p e s m args below meth c dC dI ad cA LP o A C Q hC hO j k hj hk lv st I D hf
  exact hf.elim
section
variable {y : MethodName} {cc : ByteArray} {nL : Nat} {rt : Option FieldType} {pc : Nat}
theorem sc_ok1 {LP : List Nat} {x : Int32} {r : List sc_V} (h : ∀ v ∈ r, sc_ok LP v) : ∀ v ∈ (.inl x : sc_V) :: r, sc_ok LP v := List.forall_mem_cons.mpr ⟨trivial, h⟩
theorem sc_okt {LP : List Nat} {x : sc_V} {r : List sc_V} (h : ∀ v ∈ x :: r, sc_ok LP v) : ∀ v ∈ r, sc_ok LP v := (List.forall_mem_cons.mp h).2
theorem sc_okh {LP : List Nat} {x : sc_V} {r : List sc_V} (h : ∀ v ∈ x :: r, sc_ok LP v) : sc_ok LP x := (List.forall_mem_cons.mp h).1
theorem sc_s_iconst {n : Int} {v : Int32} (h : decode cc pc = .ok (.iconst n, 1)) (hn : Int32.ofInt n = v) : sc_Snd y cc nL rt pc (pc + 1) (sc_cst v) := by
  intro l d p e s m args below meth c dC dI ad cA LP o A C Q hC hO j k hj hk lv st I D hf hv hs hl H locs ls hP hS hls
  obtain ⟨hx, hb, hr, hml, hown, hts, hlk, hKN, hD⟩ := id hC
  exact lv_iconst hx hb h hn (hk _ _ _ _ hf hv (sc_ok1 hs) hl _ _ _ hP hS hls)
theorem sc_s_bipush {n : Int} {v : Int32} (h : decode cc pc = .ok (.bipush n, 2)) (hn : (Int8.ofInt n).toInt32 = v) : sc_Snd y cc nL rt pc (pc + 2) (sc_cst v) := by
  intro l d p e s m args below meth c dC dI ad cA LP o A C Q hC hO j k hj hk lv st I D hf hv hs hl H locs ls hP hS hls
  obtain ⟨hx, hb, hr, hml, hown, hts, hlk, hKN, hD⟩ := id hC
  exact lv_bipush hx hb h hn (hk _ _ _ _ hf hv (sc_ok1 hs) hl _ _ _ hP hS hls)
theorem sc_s_sipush {n : Int} {v : Int32} (h : decode cc pc = .ok (.sipush n, 3)) (hn : (Int16.ofInt n).toInt32 = v) : sc_Snd y cc nL rt pc (pc + 3) (sc_cst v) := by
  intro l d p e s m args below meth c dC dI ad cA LP o A C Q hC hO j k hj hk lv st I D hf hv hs hl H locs ls hP hS hls
  obtain ⟨hx, hb, hr, hml, hown, hts, hlk, hKN, hD⟩ := id hC
  exact lv_sipush hx hb h hn (hk _ _ _ _ hf hv (sc_ok1 hs) hl _ _ _ hP hS hls)
theorem sc_s_iload_n {n : Fin 4} {i : Nat} (h : decode cc pc = .ok (.iload_n n, 1)) (hi : (n : Nat) = i) : sc_Snd y cc nL rt pc (pc + 1) (sc_ldI i) := by
  intro l d p e s m args below meth c dC dI ad cA LP o A C Q hC hO j k hj hk lv st I D hf hv hs hl H locs ls hP hS hls
  obtain ⟨hx, hb, hr, hml, hown, hts, hlk, hKN, hD⟩ := id hC
  obtain ⟨v, hm, hf⟩ := sc_lk_e hf
  rcases v with x | x
  · exact lv_iload_n hx hb h hi (sc_has_at hls hm) (hk _ _ _ _ hf hv (sc_ok1 hs) hl _ _ _ hP hS hls)
  · exact hf.elim
theorem sc_s_iload {i : Nat} (h : decode cc pc = .ok (.iload i, 2)) : sc_Snd y cc nL rt pc (pc + 2) (sc_ldI i) := by
  intro l d p e s m args below meth c dC dI ad cA LP o A C Q hC hO j k hj hk lv st I D hf hv hs hl H locs ls hP hS hls
  obtain ⟨hx, hb, hr, hml, hown, hts, hlk, hKN, hD⟩ := id hC
  obtain ⟨v, hm, hf⟩ := sc_lk_e hf
  rcases v with x | x
  · exact lv_iload hx hb h (sc_has_at hls hm) (hk _ _ _ _ hf hv (sc_ok1 hs) hl _ _ _ hP hS hls)
  · exact hf.elim
theorem sc_s_aload_n {n : Fin 4} {i : Nat} (h : decode cc pc = .ok (.aload_n n, 1)) (hi : (n : Nat) = i) : sc_Snd y cc nL rt pc (pc + 1) (sc_ldA i) := by
  intro l d p e s m args below meth c dC dI ad cA LP o A C Q hC hO j k hj hk lv st I D hf hv hs hl H locs ls hP hS hls
  obtain ⟨hx, hb, hr, hml, hown, hts, hlk, hKN, hD⟩ := id hC
  obtain ⟨v, hm, hf⟩ := sc_lk_e hf
  rcases v with x | x
  · exact hf.elim
  · exact lv_aload_n hx hb h hi (sc_has_at hls hm) (hk _ _ _ _ hf hv (List.forall_mem_cons.mpr ⟨hl _ hm, hs⟩) hl _ _ _ hP hS hls)
theorem sc_ok_set {LP : List Nat} {i : Nat} {v : sc_V} {lv lv' : sc_L} (hl : ∀ q ∈ lv, sc_ok LP q.2) (h : ∀ q ∈ lv', q ∈ lv ∧ q.1 ≠ i) (hv : sc_ok LP v) : ∀ q ∈ (i, v) :: lv', sc_ok LP q.2 := fun q hq => by
  rcases List.mem_cons.mp hq with rfl | hq
  · exact hv
  · exact hl q (h q hq).1
theorem sc_s_istore_n {n : Fin 4} {i : Nat} (h : decode cc pc = .ok (.istore_n n, 1)) (hi : (n : Nat) = i) (hn : i < nL) : sc_Snd y cc nL rt pc (pc + 1) (sc_stI i) := by
  intro l d p e s m args below meth c dC dI ad cA LP o A C Q hC hO j k hj hk lv st I D hf hv hs hl H locs ls hP hS hls
  obtain ⟨hx, hb, hr, hml, hown, hts, hlk, hKN, hD⟩ := id hC
  obtain ⟨x, r, rfl, hf⟩ := sc_p1_e hf
  obtain ⟨lv', hf, hm⟩ := sc_rm_e hf
  exact lv_istore_n hx hb h hi hls hn rfl (fun ls' h' => hk _ _ _ _ hf hv (sc_okt hs) (sc_ok_set hl hm trivial) _ _ _ hP hS (sc_has_set (v := .inl x) h' hm))
theorem sc_s_istore {i : Nat} (h : decode cc pc = .ok (.istore i, 2)) (hn : i < nL) : sc_Snd y cc nL rt pc (pc + 2) (sc_stI i) := by
  intro l d p e s m args below meth c dC dI ad cA LP o A C Q hC hO j k hj hk lv st I D hf hv hs hl H locs ls hP hS hls
  obtain ⟨hx, hb, hr, hml, hown, hts, hlk, hKN, hD⟩ := id hC
  obtain ⟨x, r, rfl, hf⟩ := sc_p1_e hf
  obtain ⟨lv', hf, hm⟩ := sc_rm_e hf
  exact lv_istore hx hb h hls hn rfl (fun ls' h' => hk _ _ _ _ hf hv (sc_okt hs) (sc_ok_set hl hm trivial) _ _ _ hP hS (sc_has_set (v := .inl x) h' hm))
theorem sc_s_astore_n {n : Fin 4} {k1 i : Nat} (h : decode cc pc = .ok (.astore_n n, 1)) (hi : (n : Nat) = i) (hn : i < nL) : sc_Snd y cc nL rt pc (pc + 1) (sc_stA k1 i) := by
  intro l d p e s m args below meth c dC dI ad cA LP o A C Q hC hO j k hj hk lv st I D hf hv hs hl H locs ls hP hS hls
  obtain ⟨hx, hb, hr, hml, hown, hts, hlk, hKN, hD⟩ := id hC
  obtain ⟨x, r, rfl, hg⟩ := sc_pr_e hf
  obtain ⟨lv', hf, hm⟩ := sc_rm_e hg
  exact lv_astore_n hx hb h hi hls hn rfl (fun ls' h' => hk _ _ _ _ hf hv (sc_okt hs) (sc_ok_set hl hm (sc_okh hs)) _ _ _ hP hS (sc_has_set (v := .inr (k1, x)) h' hm))
theorem sc_s_iinc {i : Nat} {n : Int} {v : Int32} (h : decode cc pc = .ok (.iinc i n, 3)) (hv0 : Int32.ofInt n = v) (hn : i < nL) : sc_Snd y cc nL rt pc (pc + 3) (sc_inc i v) := by
  intro l d p e s m args below meth c dC dI ad cA LP o A C Q hC hO j k hj hk lv st I D hf hv hs hl H locs ls hP hS hls
  obtain ⟨hx, hb, hr, hml, hown, hts, hlk, hKN, hD⟩ := id hC
  obtain ⟨w, hm0, hf⟩ := sc_lk_e hf
  rcases w with x | x
  · obtain ⟨lv', hf, hm⟩ := sc_rm_e hf
    have hmm : (i, Value.int x) ∈ sc_lm ad lv := List.mem_map.mpr ⟨(i, .inl x), hm0, rfl⟩
    obtain ⟨q, hq⟩ := List.mem_iff_getElem?.mp hmm
    exact lv_iinc (v := x + v) hx hb h hls hq (by rw [hv0]) hn rfl (fun ls' h' => hk _ _ _ _ hf hv hs (sc_ok_set hl hm trivial) _ _ _ hP hS (sc_has_set (v := .inl (x + v)) h' hm))
  · exact hf.elim
theorem sc_s_iadd (h : decode cc pc = .ok (.iadd, 1)) : sc_Snd y cc nL rt pc (pc + 1) sc_iadd := by
  intro l d p e s m args below meth c dC dI ad cA LP o A C Q hC hO j k hj hk lv st I D hf hv hs hl H locs ls hP hS hls
  obtain ⟨hx, hb, hr, hml, hown, hts, hlk, hKN, hD⟩ := id hC
  obtain ⟨x, y0, r, rfl, hf⟩ := sc_p2_e hf
  exact lv_iadd hx hb h (hk _ _ _ _ hf hv (sc_ok1 (sc_okt (sc_okt hs))) hl _ _ _ hP hS hls)
theorem sc_s_isub (h : decode cc pc = .ok (.isub, 1)) : sc_Snd y cc nL rt pc (pc + 1) sc_isub := by
  intro l d p e s m args below meth c dC dI ad cA LP o A C Q hC hO j k hj hk lv st I D hf hv hs hl H locs ls hP hS hls
  obtain ⟨hx, hb, hr, hml, hown, hts, hlk, hKN, hD⟩ := id hC
  obtain ⟨x, y0, r, rfl, hf⟩ := sc_p2_e hf
  exact lv_isub hx hb h (hk _ _ _ _ hf hv (sc_ok1 (sc_okt (sc_okt hs))) hl _ _ _ hP hS hls)
theorem sc_s_imul (h : decode cc pc = .ok (.imul, 1)) : sc_Snd y cc nL rt pc (pc + 1) sc_imul := by
  intro l d p e s m args below meth c dC dI ad cA LP o A C Q hC hO j k hj hk lv st I D hf hv hs hl H locs ls hP hS hls
  obtain ⟨hx, hb, hr, hml, hown, hts, hlk, hKN, hD⟩ := id hC
  obtain ⟨x, y0, r, rfl, hf⟩ := sc_p2_e hf
  exact lv_imul hx hb h (hk _ _ _ _ hf hv (sc_ok1 (sc_okt (sc_okt hs))) hl _ _ _ hP hS hls)
theorem sc_s_iand (h : decode cc pc = .ok (.iand, 1)) : sc_Snd y cc nL rt pc (pc + 1) sc_iand := by
  intro l d p e s m args below meth c dC dI ad cA LP o A C Q hC hO j k hj hk lv st I D hf hv hs hl H locs ls hP hS hls
  obtain ⟨hx, hb, hr, hml, hown, hts, hlk, hKN, hD⟩ := id hC
  obtain ⟨x, y0, r, rfl, hf⟩ := sc_p2_e hf
  exact lv_iand hx hb h (hk _ _ _ _ hf hv (sc_ok1 (sc_okt (sc_okt hs))) hl _ _ _ hP hS hls)
theorem sc_s_ior (h : decode cc pc = .ok (.ior, 1)) : sc_Snd y cc nL rt pc (pc + 1) sc_ior := by
  intro l d p e s m args below meth c dC dI ad cA LP o A C Q hC hO j k hj hk lv st I D hf hv hs hl H locs ls hP hS hls
  obtain ⟨hx, hb, hr, hml, hown, hts, hlk, hKN, hD⟩ := id hC
  obtain ⟨x, y0, r, rfl, hf⟩ := sc_p2_e hf
  exact lv_ior hx hb h (hk _ _ _ _ hf hv (sc_ok1 (sc_okt (sc_okt hs))) hl _ _ _ hP hS hls)
theorem sc_s_ixor (h : decode cc pc = .ok (.ixor, 1)) : sc_Snd y cc nL rt pc (pc + 1) sc_ixor := by
  intro l d p e s m args below meth c dC dI ad cA LP o A C Q hC hO j k hj hk lv st I D hf hv hs hl H locs ls hP hS hls
  obtain ⟨hx, hb, hr, hml, hown, hts, hlk, hKN, hD⟩ := id hC
  obtain ⟨x, y0, r, rfl, hf⟩ := sc_p2_e hf
  exact lv_ixor hx hb h (hk _ _ _ _ hf hv (sc_ok1 (sc_okt (sc_okt hs))) hl _ _ _ hP hS hls)
theorem sc_s_ishl (h : decode cc pc = .ok (.ishl, 1)) : sc_Snd y cc nL rt pc (pc + 1) sc_ishl := by
  intro l d p e s m args below meth c dC dI ad cA LP o A C Q hC hO j k hj hk lv st I D hf hv hs hl H locs ls hP hS hls
  obtain ⟨hx, hb, hr, hml, hown, hts, hlk, hKN, hD⟩ := id hC
  obtain ⟨x, y0, r, rfl, hf⟩ := sc_p2_e hf
  exact lv_ishl hx hb h (hk _ _ _ _ hf hv (sc_ok1 (sc_okt (sc_okt hs))) hl _ _ _ hP hS hls)
theorem sc_s_idiv (h : decode cc pc = .ok (.idiv, 1)) : sc_Snd y cc nL rt pc (pc + 1) sc_idiv := by
  intro l d p e s m args below meth c dC dI ad cA LP o A C Q hC hO j k hj hk lv st I D hf hv hs hl H locs ls hP hS hls
  obtain ⟨hx, hb, hr, hml, hown, hts, hlk, hKN, hD⟩ := id hC
  obtain ⟨x, y0, r, rfl, hne, hf⟩ := sc_p2_e hf
  exact lv_idiv hx hb h hne (hk _ _ _ _ hf hv (sc_ok1 (sc_okt (sc_okt hs))) hl _ _ _ hP hS hls)
theorem sc_s_irem (h : decode cc pc = .ok (.irem, 1)) : sc_Snd y cc nL rt pc (pc + 1) sc_irem := by
  intro l d p e s m args below meth c dC dI ad cA LP o A C Q hC hO j k hj hk lv st I D hf hv hs hl H locs ls hP hS hls
  obtain ⟨hx, hb, hr, hml, hown, hts, hlk, hKN, hD⟩ := id hC
  obtain ⟨x, y0, r, rfl, hne, hf⟩ := sc_p2_e hf
  exact lv_irem hx hb h hne (hk _ _ _ _ hf hv (sc_ok1 (sc_okt (sc_okt hs))) hl _ _ _ hP hS hls)
theorem sc_s_goto {off : Int} {t nx : Nat} (h : decode cc pc = .ok (.goto off, 3)) (ht : (pc : Int) + off = (t : Int)) : sc_Snd y cc nL rt pc nx (sc_goto t) := by
  intro l d p e s m args below meth c dC dI ad cA LP o A C Q hC hO j k hj hk lv st I D hf hv hs hl H locs ls hP hS hls
  obtain ⟨hx, hb, hr, hml, hown, hts, hlk, hKN, hD⟩ := id hC
  exact lv_goto hx hb h ht (hj _ _ _ _ _ hf hv hs hl _ _ _ hP hS hls)
theorem sc_s_dup (h : decode cc pc = .ok (.dup, 1)) : sc_Snd y cc nL rt pc (pc + 1) sc_dup := by
  intro l d p e s m args below meth c dC dI ad cA LP o A C Q hC hO j k hj hk lv st I D hf hv hs hl H locs ls hP hS hls
  obtain ⟨hx, hb, hr, hml, hown, hts, hlk, hKN, hD⟩ := id hC
  match st, hf, hs with
  | v :: r, hf, hs => exact lv_dup hx hb h (sc_tv_cat ad v) (hk _ _ _ _ hf hv (List.forall_mem_cons.mpr ⟨sc_okh hs, hs⟩) hl _ _ _ hP hS hls)
theorem sc_s_if_eq {off : Int} {t : Nat} (h : decode cc pc = .ok (.ifCond .eq off, 3)) (ht : (pc : Int) + off = (t : Int)) : sc_Snd y cc nL rt pc (pc + 3) (sc_if_eq t) := by
  intro l d p e s m args below meth c dC dI ad cA LP o A C Q hC hO j k hj hk lv st I D hf hv hs hl H locs ls hP hS hls
  obtain ⟨hx, hb, hr, hml, hown, hts, hlk, hKN, hD⟩ := id hC
  obtain ⟨x, r, rfl, hf⟩ := sc_p1_e hf
  exact lv_if_eq hx hb h ht (fun z => hj _ _ _ _ _ (hf.1 z) hv (sc_okt hs) hl _ _ _ hP hS hls) (fun z => hk _ _ _ _ (hf.2 z) hv (sc_okt hs) hl _ _ _ hP hS hls)
theorem sc_s_if_ne {off : Int} {t : Nat} (h : decode cc pc = .ok (.ifCond .ne off, 3)) (ht : (pc : Int) + off = (t : Int)) : sc_Snd y cc nL rt pc (pc + 3) (sc_if_ne t) := by
  intro l d p e s m args below meth c dC dI ad cA LP o A C Q hC hO j k hj hk lv st I D hf hv hs hl H locs ls hP hS hls
  obtain ⟨hx, hb, hr, hml, hown, hts, hlk, hKN, hD⟩ := id hC
  obtain ⟨x, r, rfl, hf⟩ := sc_p1_e hf
  exact lv_if_ne hx hb h ht (fun z => hj _ _ _ _ _ (hf.2 z) hv (sc_okt hs) hl _ _ _ hP hS hls) (fun z => hk _ _ _ _ (hf.1 z) hv (sc_okt hs) hl _ _ _ hP hS hls)
theorem sc_s_if_lt {off : Int} {t : Nat} (h : decode cc pc = .ok (.ifCond .lt off, 3)) (ht : (pc : Int) + off = (t : Int)) : sc_Snd y cc nL rt pc (pc + 3) (sc_if_lt t) := by
  intro l d p e s m args below meth c dC dI ad cA LP o A C Q hC hO j k hj hk lv st I D hf hv hs hl H locs ls hP hS hls
  obtain ⟨hx, hb, hr, hml, hown, hts, hlk, hKN, hD⟩ := id hC
  obtain ⟨x, r, rfl, hf⟩ := sc_p1_e hf
  exact lv_if_lt hx hb h ht (fun z => hj _ _ _ _ _ (hf.1 z) hv (sc_okt hs) hl _ _ _ hP hS hls) (fun z => hk _ _ _ _ (hf.2 z) hv (sc_okt hs) hl _ _ _ hP hS hls)
theorem sc_s_if_ge {off : Int} {t : Nat} (h : decode cc pc = .ok (.ifCond .ge off, 3)) (ht : (pc : Int) + off = (t : Int)) : sc_Snd y cc nL rt pc (pc + 3) (sc_if_ge t) := by
  intro l d p e s m args below meth c dC dI ad cA LP o A C Q hC hO j k hj hk lv st I D hf hv hs hl H locs ls hP hS hls
  obtain ⟨hx, hb, hr, hml, hown, hts, hlk, hKN, hD⟩ := id hC
  obtain ⟨x, r, rfl, hf⟩ := sc_p1_e hf
  exact lv_if_ge hx hb h ht (fun z => hj _ _ _ _ _ (hf.1 z) hv (sc_okt hs) hl _ _ _ hP hS hls) (fun z => hk _ _ _ _ (hf.2 z) hv (sc_okt hs) hl _ _ _ hP hS hls)
theorem sc_s_if_gt {off : Int} {t : Nat} (h : decode cc pc = .ok (.ifCond .gt off, 3)) (ht : (pc : Int) + off = (t : Int)) : sc_Snd y cc nL rt pc (pc + 3) (sc_if_gt t) := by
  intro l d p e s m args below meth c dC dI ad cA LP o A C Q hC hO j k hj hk lv st I D hf hv hs hl H locs ls hP hS hls
  obtain ⟨hx, hb, hr, hml, hown, hts, hlk, hKN, hD⟩ := id hC
  obtain ⟨x, r, rfl, hf⟩ := sc_p1_e hf
  exact lv_if_gt hx hb h ht (fun z => hj _ _ _ _ _ (hf.1 z) hv (sc_okt hs) hl _ _ _ hP hS hls) (fun z => hk _ _ _ _ (hf.2 z) hv (sc_okt hs) hl _ _ _ hP hS hls)
theorem sc_s_if_le {off : Int} {t : Nat} (h : decode cc pc = .ok (.ifCond .le off, 3)) (ht : (pc : Int) + off = (t : Int)) : sc_Snd y cc nL rt pc (pc + 3) (sc_if_le t) := by
  intro l d p e s m args below meth c dC dI ad cA LP o A C Q hC hO j k hj hk lv st I D hf hv hs hl H locs ls hP hS hls
  obtain ⟨hx, hb, hr, hml, hown, hts, hlk, hKN, hD⟩ := id hC
  obtain ⟨x, r, rfl, hf⟩ := sc_p1_e hf
  exact lv_if_le hx hb h ht (fun z => hj _ _ _ _ _ (hf.1 z) hv (sc_okt hs) hl _ _ _ hP hS hls) (fun z => hk _ _ _ _ (hf.2 z) hv (sc_okt hs) hl _ _ _ hP hS hls)
theorem sc_s_icmp_eq {off : Int} {t : Nat} (h : decode cc pc = .ok (.if_icmp .eq off, 3)) (ht : (pc : Int) + off = (t : Int)) : sc_Snd y cc nL rt pc (pc + 3) (sc_ic_eq t) := by
  intro l d p e s m args below meth c dC dI ad cA LP o A C Q hC hO j k hj hk lv st I D hf hv hs hl H locs ls hP hS hls
  obtain ⟨hx, hb, hr, hml, hown, hts, hlk, hKN, hD⟩ := id hC
  obtain ⟨x, y0, r, rfl, hf⟩ := sc_p2_e hf
  exact lv_icmp_eq hx hb h ht (fun z => hj _ _ _ _ _ (hf.1 z) hv (sc_okt (sc_okt hs)) hl _ _ _ hP hS hls) (fun z => hk _ _ _ _ (hf.2 z) hv (sc_okt (sc_okt hs)) hl _ _ _ hP hS hls)
theorem sc_s_icmp_ne {off : Int} {t : Nat} (h : decode cc pc = .ok (.if_icmp .ne off, 3)) (ht : (pc : Int) + off = (t : Int)) : sc_Snd y cc nL rt pc (pc + 3) (sc_ic_ne t) := by
  intro l d p e s m args below meth c dC dI ad cA LP o A C Q hC hO j k hj hk lv st I D hf hv hs hl H locs ls hP hS hls
  obtain ⟨hx, hb, hr, hml, hown, hts, hlk, hKN, hD⟩ := id hC
  obtain ⟨x, y0, r, rfl, hf⟩ := sc_p2_e hf
  exact lv_icmp_ne hx hb h ht (fun z => hj _ _ _ _ _ (hf.2 z) hv (sc_okt (sc_okt hs)) hl _ _ _ hP hS hls) (fun z => hk _ _ _ _ (hf.1 z) hv (sc_okt (sc_okt hs)) hl _ _ _ hP hS hls)
theorem sc_s_icmp_lt {off : Int} {t : Nat} (h : decode cc pc = .ok (.if_icmp .lt off, 3)) (ht : (pc : Int) + off = (t : Int)) : sc_Snd y cc nL rt pc (pc + 3) (sc_ic_lt t) := by
  intro l d p e s m args below meth c dC dI ad cA LP o A C Q hC hO j k hj hk lv st I D hf hv hs hl H locs ls hP hS hls
  obtain ⟨hx, hb, hr, hml, hown, hts, hlk, hKN, hD⟩ := id hC
  obtain ⟨x, y0, r, rfl, hf⟩ := sc_p2_e hf
  exact lv_icmp_lt hx hb h ht (fun z => hj _ _ _ _ _ (hf.1 z) hv (sc_okt (sc_okt hs)) hl _ _ _ hP hS hls) (fun z => hk _ _ _ _ (hf.2 z) hv (sc_okt (sc_okt hs)) hl _ _ _ hP hS hls)
theorem sc_s_icmp_ge {off : Int} {t : Nat} (h : decode cc pc = .ok (.if_icmp .ge off, 3)) (ht : (pc : Int) + off = (t : Int)) : sc_Snd y cc nL rt pc (pc + 3) (sc_ic_ge t) := by
  intro l d p e s m args below meth c dC dI ad cA LP o A C Q hC hO j k hj hk lv st I D hf hv hs hl H locs ls hP hS hls
  obtain ⟨hx, hb, hr, hml, hown, hts, hlk, hKN, hD⟩ := id hC
  obtain ⟨x, y0, r, rfl, hf⟩ := sc_p2_e hf
  exact lv_icmp_ge hx hb h ht (fun z => hj _ _ _ _ _ (hf.1 z) hv (sc_okt (sc_okt hs)) hl _ _ _ hP hS hls) (fun z => hk _ _ _ _ (hf.2 z) hv (sc_okt (sc_okt hs)) hl _ _ _ hP hS hls)
theorem sc_s_icmp_gt {off : Int} {t : Nat} (h : decode cc pc = .ok (.if_icmp .gt off, 3)) (ht : (pc : Int) + off = (t : Int)) : sc_Snd y cc nL rt pc (pc + 3) (sc_ic_gt t) := by
  intro l d p e s m args below meth c dC dI ad cA LP o A C Q hC hO j k hj hk lv st I D hf hv hs hl H locs ls hP hS hls
  obtain ⟨hx, hb, hr, hml, hown, hts, hlk, hKN, hD⟩ := id hC
  obtain ⟨x, y0, r, rfl, hf⟩ := sc_p2_e hf
  exact lv_icmp_gt hx hb h ht (fun z => hj _ _ _ _ _ (hf.1 z) hv (sc_okt (sc_okt hs)) hl _ _ _ hP hS hls) (fun z => hk _ _ _ _ (hf.2 z) hv (sc_okt (sc_okt hs)) hl _ _ _ hP hS hls)
theorem sc_s_icmp_le {off : Int} {t : Nat} (h : decode cc pc = .ok (.if_icmp .le off, 3)) (ht : (pc : Int) + off = (t : Int)) : sc_Snd y cc nL rt pc (pc + 3) (sc_ic_le t) := by
  intro l d p e s m args below meth c dC dI ad cA LP o A C Q hC hO j k hj hk lv st I D hf hv hs hl H locs ls hP hS hls
  obtain ⟨hx, hb, hr, hml, hown, hts, hlk, hKN, hD⟩ := id hC
  obtain ⟨x, y0, r, rfl, hf⟩ := sc_p2_e hf
  exact lv_icmp_le hx hb h ht (fun z => hj _ _ _ _ _ (hf.1 z) hv (sc_okt (sc_okt hs)) hl _ _ _ hP hS hls) (fun z => hk _ _ _ _ (hf.2 z) hv (sc_okt (sc_okt hs)) hl _ _ _ hP hS hls)
theorem sc_fx_ok {LP : List Nat} {k1 s1 k2 i2 : Nat} (h : sc_fx k1 s1 = some (k2, some i2)) : sc_ok LP (.inr (k2, i2)) := by
  unfold sc_fx at h
  split at h <;> (try split at h) <;> first
    | (cases h; done)
    | (simp only [Option.some.injEq, Prod.mk.injEq, reduceCtorEq, and_false] at h; done)
    | (simp only [Option.some.injEq, Prod.mk.injEq] at h
       obtain ⟨rfl, rfl⟩ := h
       first | exact (rfl : 0 = 0) | (show (_ : Nat) < 23; decide))
theorem sc_fx_dyn {LP : List Nat} {D : sc_R} {k1 i s1 k2 : Nat} (h : sc_fx k1 s1 = some (k2, none)) (hok : sc_ok LP (.inr (k1, i))) (hv : sc_vd LP D) : sc_ok LP (.inr (k2, D k1 i s1)) := by
  unfold sc_fx at h
  split at h
  · split at h
    · simp only [Option.some.injEq, Prod.mk.injEq, and_true] at h
      subst h
      exact hv.1 i hok
    · cases h
  · split at h
    · simp only [Option.some.injEq, Prod.mk.injEq, and_true] at h
      subst h
      have hi : i = 0 := hok
      subst hi
      exact hv.2.2.2
    all_goals (simp only [Option.some.injEq, Prod.mk.injEq, reduceCtorEq, and_false] at h)
  · split at h <;> (simp only [Option.some.injEq, Prod.mk.injEq, reduceCtorEq, and_false] at h)
  · cases h
theorem sc_got {LP : List Nat} {ad : Nat → Nat} {I : sc_I} {D : sc_R} {k1 i s1 : Nat} {K : sc_V → Prop} (hok : sc_ok LP (.inr (k1, i))) (hv : sc_vd LP D) (hf : match sc_fx k1 s1 with
  | none => K (.inl (I k1 i s1))
  | some (k2, some i2) => K (.inr (k2, i2))
  | some (k2, none) => K (.inr (k2, D k1 i s1))) : ∃ v, sc_fw ad k1 s1 (I k1 i) (D k1 i) = sc_tv ad v ∧ K v ∧ sc_ok LP v := by
  unfold sc_fw
  split at hf
  · rename_i hx
    rw [hx]
    exact ⟨_, rfl, hf, trivial⟩
  · rename_i k2 i2 hx
    rw [hx]
    exact ⟨_, rfl, hf, sc_fx_ok hx⟩
  · rename_i k2 hx
    rw [hx]
    exact ⟨_, rfl, hf, sc_fx_dyn hx hok hv⟩
theorem sc_in {k1 : Nat} (hk1 : k1 < 4) : ∀ w ∈ u_ws (sc_cl k1).1 (sc_cl k1).2.1 (sc_cl k1).2.2, w ∈ sc_ws y cc nL rt := by
  intro w hw
  obtain ⟨k, hk, rfl⟩ := List.mem_map.mp hw
  have hk := List.mem_range.mp hk
  exact List.mem_cons_of_mem _ (sc_lays hk1 k hk)
theorem sc_s_get {idx k1 s1 : Nat} (h : decode cc pc = .ok (.getfield idx, 3)) (hk1 : k1 < 4) (hs1 : s1 < sc_nf k1) (hw : Cond.fieldLink y.cls idx ((sc_cl k1).2.1 s1).1 ((sc_cl k1).2.1 s1).2.1 ((sc_cl k1).2.1 s1).2.2.1 ∈ sc_G) : sc_Snd y cc nL rt pc (pc + 3) (sc_get k1 s1) := by
  intro l d p e s m args below meth c dC dI ad cA LP o A C Q hC hO j k hj hk lv st I D hf hv hs hl H locs ls hP hS hls
  obtain ⟨hx, hb, hr, hml, hown, hts, hlk, hKN, hD⟩ := id hC
  obtain ⟨i, r, rfl, hg⟩ := sc_pr_e hf
  obtain ⟨q0, he⟩ := sc_objx (ad := ad) (cA := cA) (o := o) (I := I) (D := D) hk1 (sc_okh hs)
  refine va_get (D := (dC, dI)) (C := (sc_cl k1).1) (T := (sc_cl k1).2.1) (N := (sc_cl k1).2.2) hx hb hts (sc_in hk1) hown hKN.1 hP q0 he (sc_cl_at hk1) s1 (by rw [sc_cl_n hk1]; exact hs1) (hts _ (List.mem_cons_of_mem _ hw)) (fun _ h9 => h9) (sc_tab_get hs1) h ?_
  obtain ⟨v, e1, hf, hok⟩ := sc_got (K := fun v => k lv (v :: r) I D) (ad := ad) (sc_okh hs) hv hg
  rw [e1]
  exact hk _ _ _ _ hf hv (List.forall_mem_cons.mpr ⟨hok, sc_okt hs⟩) hl _ _ _ hP hS hls
theorem sc_s_getN {idx k1 s1 : Nat} {host : String} (h : decode cc pc = .ok (.getfield idx, 3)) (hk1 : k1 < 4) (hs1 : s1 < sc_nf k1) (hw : (y.cls, idx, ((sc_cl k1).2.1 s1).1, ((sc_cl k1).2.1 s1).2.1, ((sc_cl k1).2.1 s1).2.2.1, host) ∈ sc_NF) : sc_Snd y cc nL rt pc (pc + 3) (sc_get k1 s1) := by
  intro l d p e s m args below meth c dC dI ad cA LP o A C Q hC hO j k hj hk lv st I D hf hv hs hl H locs ls hP hS hls
  obtain ⟨hx, hb, hr, hml, hown, hts, hlk, hKN, hD⟩ := id hC
  obtain ⟨i, r, rfl, hg⟩ := sc_pr_e hf
  obtain ⟨q0, he⟩ := sc_objx (ad := ad) (cA := cA) (o := o) (I := I) (D := D) hk1 (sc_okh hs)
  refine va_getN (D := (dC, dI)) (C := (sc_cl k1).1) (T := (sc_cl k1).2.1) (N := (sc_cl k1).2.2) hx hb hts (sc_in hk1) hown hKN.1 hP q0 he (sc_cl_at hk1) s1 (by rw [sc_cl_n hk1]; exact hs1) (va_Nw.use rfl (hKN.2.1 _ hw)) (fun _ h9 => h9) (sc_tab_get hs1) h ?_
  obtain ⟨v, e1, hf, hok⟩ := sc_got (K := fun v => k lv (v :: r) I D) (ad := ad) (sc_okh hs) hv hg
  rw [e1]
  exact hk _ _ _ _ hf hv (List.forall_mem_cons.mpr ⟨hok, sc_okt hs⟩) hl _ _ _ hP hS hls
theorem sc_k4 {k1 : Nat} (h : k1 = 0 ∨ k1 = 2 ∨ k1 = 3) : k1 < 4 := by omega
theorem sc_s_putI {idx k1 s1 : Nat} (h : decode cc pc = .ok (.putfield idx, 3)) (hk1 : k1 = 0 ∨ k1 = 2 ∨ k1 = 3) (hs1 : s1 < sc_nf k1) (hfx : sc_fx k1 s1 = none) (hfin : ((sc_cl k1).2.1 s1).2.2.2 = false) (hty : parseFieldDescriptor ((sc_cl k1).2.1 s1).2.2.1 = some .int) (hw : Cond.fieldLink y.cls idx ((sc_cl k1).2.1 s1).1 ((sc_cl k1).2.1 s1).2.1 ((sc_cl k1).2.1 s1).2.2.1 ∈ sc_G) : sc_Snd y cc nL rt pc (pc + 3) (sc_putI k1 s1) := by
  intro l d p e s m args below meth c dC dI ad cA LP o A C Q hC hO j k hj hk lv st I D hf hv hs hl H locs ls hP hS hls
  obtain ⟨hx, hb, hr, hml, hown, hts, hlk, hKN, hD⟩ := id hC
  obtain ⟨x, i, r, rfl, hg⟩ := sc_pri_e hf
  have hok := sc_okh (sc_okt hs)
  obtain ⟨hp, he⟩ := sc_obj (ad := ad) (cA := cA) (o := o) (I := I) (D := D) hk1 hok
  refine va_put (D := (dC, dI)) (v := .int x) (ty := .int) (C := (sc_cl k1).1) (T := (sc_cl k1).2.1) (N := (sc_cl k1).2.2) hx hb hts (sc_in (sc_k4 hk1)) (sc_ty0 k1) (sc_ty_ok (sc_k4 hk1)) (sc_nm_ok (sc_k4 hk1)) hown hKN.1 hP (hD I D) hS (sc_pl k1 i) he (sc_cl_at (sc_k4 hk1)) s1 (by rw [sc_cl_n (sc_k4 hk1)]; exact hs1) (hts _ (List.mem_cons_of_mem _ hw)) (fun _ h9 => h9) hfin hty rfl rfl (by rw [sc_tab_len]; exact hs1) h (fun H1 locs1 hP hD1 hS => ?_)
  rw [sc_w_putI hk1 hok hfx] at hP
  exact hk _ _ _ _ hg hv (sc_okt (sc_okt hs)) hl _ _ _ hP hS hls
theorem sc_nz {x : Int32} (h : x = 0 ∨ x = 1) : narrow .boolean (.int x) = .int x ∧ fits .boolean (.int x) = true ∧ vp_nar .boolean x = x := by
  rcases h with rfl | rfl
  · exact ⟨rfl, rfl, rfl⟩
  · exact ⟨rfl, rfl, rfl⟩
theorem sc_s_putZ {idx k1 s1 : Nat} (h : decode cc pc = .ok (.putfield idx, 3)) (hk1 : k1 = 0 ∨ k1 = 2 ∨ k1 = 3) (hs1 : s1 < sc_nf k1) (hfx : sc_fx k1 s1 = none) (hfin : ((sc_cl k1).2.1 s1).2.2.2 = false) (hty : parseFieldDescriptor ((sc_cl k1).2.1 s1).2.2.1 = some .boolean) (hw : Cond.fieldLink y.cls idx ((sc_cl k1).2.1 s1).1 ((sc_cl k1).2.1 s1).2.1 ((sc_cl k1).2.1 s1).2.2.1 ∈ sc_G) : sc_Snd y cc nL rt pc (pc + 3) (sc_putZ k1 s1) := by
  intro l d p e s m args below meth c dC dI ad cA LP o A C Q hC hO j k hj hk lv st I D hf hv hs hl H locs ls hP hS hls
  obtain ⟨hx, hb, hr, hml, hown, hts, hlk, hKN, hD⟩ := id hC
  obtain ⟨x, i, r, rfl, hz, hf⟩ := sc_pri_e hf
  have hok := sc_okh (sc_okt hs)
  obtain ⟨hp, he⟩ := sc_obj (ad := ad) (cA := cA) (o := o) (I := I) (D := D) hk1 hok
  refine va_put (D := (dC, dI)) (v := .int x) (ty := .boolean) (C := (sc_cl k1).1) (T := (sc_cl k1).2.1) (N := (sc_cl k1).2.2) hx hb hts (sc_in (sc_k4 hk1)) (sc_ty0 k1) (sc_ty_ok (sc_k4 hk1)) (sc_nm_ok (sc_k4 hk1)) hown hKN.1 hP (hD I D) hS (sc_pl k1 i) he (sc_cl_at (sc_k4 hk1)) s1 (by rw [sc_cl_n (sc_k4 hk1)]; exact hs1) (hts _ (List.mem_cons_of_mem _ hw)) (fun _ h9 => h9) hfin hty (sc_nz hz).1 (sc_nz hz).2.1 (by rw [sc_tab_len]; exact hs1) h (fun H1 locs1 hP hD1 hS => ?_)
  rw [sc_w_putI hk1 hok hfx] at hP
  exact hk _ _ _ _ hf hv (sc_okt (sc_okt hs)) hl _ _ _ hP hS hls
theorem sc_s_putIN {idx k1 s1 : Nat} {host : String} (h : decode cc pc = .ok (.putfield idx, 3)) (hk1 : k1 = 0 ∨ k1 = 2 ∨ k1 = 3) (hs1 : s1 < sc_nf k1) (hfx : sc_fx k1 s1 = none) (hfin : ((sc_cl k1).2.1 s1).2.2.2 = false) (hty : parseFieldDescriptor ((sc_cl k1).2.1 s1).2.2.1 = some .int) (hw : (y.cls, idx, ((sc_cl k1).2.1 s1).1, ((sc_cl k1).2.1 s1).2.1, ((sc_cl k1).2.1 s1).2.2.1, host) ∈ sc_NF) : sc_Snd y cc nL rt pc (pc + 3) (sc_putI k1 s1) := by
  intro l d p e s m args below meth c dC dI ad cA LP o A C Q hC hO j k hj hk lv st I D hf hv hs hl H locs ls hP hS hls
  obtain ⟨hx, hb, hr, hml, hown, hts, hlk, hKN, hD⟩ := id hC
  obtain ⟨x, i, r, rfl, hg⟩ := sc_pri_e hf
  have hok := sc_okh (sc_okt hs)
  obtain ⟨hp, he⟩ := sc_obj (ad := ad) (cA := cA) (o := o) (I := I) (D := D) hk1 hok
  refine va_putN (D := (dC, dI)) (v := .int x) (ty := .int) (C := (sc_cl k1).1) (T := (sc_cl k1).2.1) (N := (sc_cl k1).2.2) hx hb hts (sc_in (sc_k4 hk1)) (sc_ty0 k1) (sc_ty_ok (sc_k4 hk1)) (sc_nm_ok (sc_k4 hk1)) hown hKN.1 hP (hD I D) hS (sc_pl k1 i) he (sc_cl_at (sc_k4 hk1)) s1 (by rw [sc_cl_n (sc_k4 hk1)]; exact hs1) (va_Nw.use rfl (hKN.2.1 _ hw)) (fun _ h9 => h9) hfin hty rfl rfl (by rw [sc_tab_len]; exact hs1) h (fun H1 locs1 hP hD1 hS => ?_)
  rw [sc_w_putI hk1 hok hfx] at hP
  exact hk _ _ _ _ hg hv (sc_okt (sc_okt hs)) hl _ _ _ hP hS hls
theorem sc_s_putZN {idx k1 s1 : Nat} {host : String} (h : decode cc pc = .ok (.putfield idx, 3)) (hk1 : k1 = 0 ∨ k1 = 2 ∨ k1 = 3) (hs1 : s1 < sc_nf k1) (hfx : sc_fx k1 s1 = none) (hfin : ((sc_cl k1).2.1 s1).2.2.2 = false) (hty : parseFieldDescriptor ((sc_cl k1).2.1 s1).2.2.1 = some .boolean) (hw : (y.cls, idx, ((sc_cl k1).2.1 s1).1, ((sc_cl k1).2.1 s1).2.1, ((sc_cl k1).2.1 s1).2.2.1, host) ∈ sc_NF) : sc_Snd y cc nL rt pc (pc + 3) (sc_putZ k1 s1) := by
  intro l d p e s m args below meth c dC dI ad cA LP o A C Q hC hO j k hj hk lv st I D hf hv hs hl H locs ls hP hS hls
  obtain ⟨hx, hb, hr, hml, hown, hts, hlk, hKN, hD⟩ := id hC
  obtain ⟨x, i, r, rfl, hz, hf⟩ := sc_pri_e hf
  have hok := sc_okh (sc_okt hs)
  obtain ⟨hp, he⟩ := sc_obj (ad := ad) (cA := cA) (o := o) (I := I) (D := D) hk1 hok
  refine va_putN (D := (dC, dI)) (v := .int x) (ty := .boolean) (C := (sc_cl k1).1) (T := (sc_cl k1).2.1) (N := (sc_cl k1).2.2) hx hb hts (sc_in (sc_k4 hk1)) (sc_ty0 k1) (sc_ty_ok (sc_k4 hk1)) (sc_nm_ok (sc_k4 hk1)) hown hKN.1 hP (hD I D) hS (sc_pl k1 i) he (sc_cl_at (sc_k4 hk1)) s1 (by rw [sc_cl_n (sc_k4 hk1)]; exact hs1) (va_Nw.use rfl (hKN.2.1 _ hw)) (fun _ h9 => h9) hfin hty (sc_nz hz).1 (sc_nz hz).2.1 (by rw [sc_tab_len]; exact hs1) h (fun H1 locs1 hP hD1 hS => ?_)
  rw [sc_w_putI hk1 hok hfx] at hP
  exact hk _ _ _ _ hf hv (sc_okt (sc_okt hs)) hl _ _ _ hP hS hls
theorem sc_vd_putN {LP : List Nat} {D : sc_R} {i a : Nat} (hv : sc_vd LP D) (ha : a ∈ LP) : sc_vd LP (sc_u D 0 i 1 a) := by
  refine ⟨fun f hf => ?_, fun f hf => ?_, fun f hf => ?_, ?_⟩
  · by_cases e : f = i
    · subst e
      rw [sc_u_at, va_up_self]
      exact ha
    · rw [sc_u_row _ _ _ _ _ (fun z => e z.2)]
      exact hv.1 f hf
  · rw [sc_u_row _ _ _ _ _ (fun z => by cases z.1)]; exact hv.2.1 f hf
  · rw [sc_u_row _ _ _ _ _ (fun z => by cases z.1)]; exact hv.2.2.1 f hf
  · rw [sc_u_row _ _ _ _ _ (fun z => by cases z.1)]; exact hv.2.2.2
theorem sc_s_putN {idx : Nat} {host : String} (h : decode cc pc = .ok (.putfield idx, 3)) (hw : (y.cls, idx, ((sc_cl 0).2.1 1).1, ((sc_cl 0).2.1 1).2.1, ((sc_cl 0).2.1 1).2.2.1, host) ∈ sc_NF) : sc_Snd y cc nL rt pc (pc + 3) sc_putN := by
  intro l d p e s m args below meth c dC dI ad cA LP o A C Q hC hO j k hj hk lv st I D hf hv hs hl H locs ls hP hS hls
  obtain ⟨hx, hb, hr, hml, hown, hts, hlk, hKN, hD⟩ := id hC
  obtain ⟨a, i, r, rfl, hg⟩ := sc_prr_e hf
  have hok := sc_okh (sc_okt hs)
  have hoa : a ∈ LP := sc_okh hs
  obtain ⟨hp, he⟩ := sc_obj (ad := ad) (cA := cA) (o := o) (I := I) (D := D) (Or.inl rfl) hok
  refine va_putN (D := (dC, dI)) (v := .ref (sc_ad ad 1 a)) (ty := .object "StageChip$Instruction") (C := (sc_cl 0).1) (T := (sc_cl 0).2.1) (N := (sc_cl 0).2.2) hx hb hts (sc_in (by decide)) (sc_ty0 0) (sc_ty_ok (by decide)) (sc_nm_ok (by decide)) hown hKN.1 hP (hD I D) hS (sc_pl 0 i) he (sc_cl_at (by decide)) 1 (by decide) (va_Nw.use rfl (hKN.2.1 _ hw)) (fun _ h9 => h9) rfl (by decide +kernel) rfl rfl (by rw [sc_tab_len]; decide) h (fun H1 locs1 hP hD1 hS => ?_)
  rw [sc_w_putN hok a] at hP
  exact hk _ _ _ _ hg (sc_vd_putN hv hoa) (sc_okt (sc_okt hs)) hl _ _ _ hP hS hls
theorem sc_s_iaload (h : decode cc pc = .ok (.iaload, 1)) : sc_Snd y cc nL rt pc (pc + 1) sc_ald := by
  intro l d p e s m args below meth c dC dI ad cA LP o A C Q hC hO j k hj hk lv st I D hf hv hs hl H locs ls hP hS hls
  obtain ⟨hx, hb, hr, hml, hown, hts, hlk, hKN, hD⟩ := id hC
  obtain ⟨x, i, r, rfl, hin, hf⟩ := sc_pri_e hf
  have hi : i < 23 := sc_okh (sc_okt hs)
  exact va_iald hx hb hKN.1 hP (i + 11) i (sc_w_row hi) (sc_tys_int hi) hin h (hk _ _ _ _ hf hv (sc_ok1 (sc_okt (sc_okt hs))) hl _ _ _ hP hS hls)
theorem sc_s_iastore (h : decode cc pc = .ok (.iastore, 1)) : sc_Snd y cc nL rt pc (pc + 1) sc_ast := by
  intro l d p e s m args below meth c dC dI ad cA LP o A C Q hC hO j k hj hk lv st I D hf hv hs hl H locs ls hP hS hls
  obtain ⟨hx, hb, hr, hml, hown, hts, hlk, hKN, hD⟩ := id hC
  obtain ⟨v, x, i, r, rfl, hin, hf⟩ := sc_prii_e hf
  have hi : i < 23 := sc_okh (sc_okt (sc_okt hs))
  refine va_iast hx hb hKN.1 hP (hD I D) hS (i + 11) i (sc_w_row hi) (sc_tys_int hi) hin h (fun H1 locs1 hP hD1 hS => ?_)
  rw [sc_w_rowset hi] at hP
  exact hk _ _ _ _ hf hv (sc_okt (sc_okt (sc_okt hs))) hl _ _ _ hP hS hls
theorem sc_s_baload (h : decode cc pc = .ok (.baload, 1)) : sc_Snd y cc nL rt pc (pc + 1) sc_zld := by
  intro l d p e s m args below meth c dC dI ad cA LP o A C Q hC hO j k hj hk lv st I D hf hv hs hl H locs ls hP hS hls
  obtain ⟨hx, hb, hr, hml, hown, hts, hlk, hKN, hD⟩ := id hC
  obtain ⟨x, i, r, rfl, hin, hf⟩ := sc_pri_e hf
  exact va_zald hx hb hKN.1 hP 7 23 sc_w_there rfl hin h (hk _ _ _ _ hf hv (sc_ok1 (sc_okt (sc_okt hs))) hl _ _ _ hP hS hls)
theorem sc_s_bastore (h : decode cc pc = .ok (.bastore, 1)) : sc_Snd y cc nL rt pc (pc + 1) sc_zst := by
  intro l d p e s m args below meth c dC dI ad cA LP o A C Q hC hO j k hj hk lv st I D hf hv hs hl H locs ls hP hS hls
  obtain ⟨hx, hb, hr, hml, hown, hts, hlk, hKN, hD⟩ := id hC
  obtain ⟨v, x, i, r, rfl, hz, hin, hf⟩ := sc_prii_e hf
  refine va_zast hx hb hKN.1 hP (hD I D) hS 7 23 sc_w_there rfl hin h (fun H1 locs1 hP hD1 hS => ?_)
  rw [(sc_nz hz).2.2, sc_w_thereset] at hP
  exact hk _ _ _ _ hf hv (sc_okt (sc_okt (sc_okt hs))) hl _ _ _ hP hS hls
theorem sc_cln {x : Int32} {n : Nat} (h : vp_in x n) : x.toNatClampNeg < n := by
  unfold vp_in at h
  omega
theorem sc_s_fload (h : decode cc pc = .ok (.aaload, 1)) : sc_Snd y cc nL rt pc (pc + 1) sc_fld := by
  intro l d p e s m args below meth c dC dI ad cA LP o A C Q hC hO j k hj hk lv st I D hf hv hs hl H locs ls hP hS hls
  obtain ⟨hx, hb, hr, hml, hown, hts, hlk, hKN, hD⟩ := id hC
  obtain ⟨x, i, r, rfl, hin, hf⟩ := sc_pri_e hf
  exact va_aldq hx hb hKN.1 hP 8 24 sc_w_stages rfl hin h (hk _ _ _ _ hf hv (List.forall_mem_cons.mpr ⟨hv.2.1 _ (sc_cln hin), sc_okt (sc_okt hs)⟩) hl _ _ _ hP hS hls)
theorem sc_s_nload (h : decode cc pc = .ok (.aaload, 1)) : sc_Snd y cc nL rt pc (pc + 1) sc_nld := by
  intro l d p e s m args below meth c dC dI ad cA LP o A C Q hC hO j k hj hk lv st I D hf hv hs hl H locs ls hP hS hls
  obtain ⟨hx, hb, hr, hml, hown, hts, hlk, hKN, hD⟩ := id hC
  obtain ⟨x, i, r, rfl, hin, hf⟩ := sc_pri_e hf
  exact va_aldq hx hb hKN.1 hP 9 25 sc_w_program rfl hin h (hk _ _ _ _ hf hv (List.forall_mem_cons.mpr ⟨hv.2.2.1 _ (sc_cln hin), sc_okt (sc_okt hs)⟩) hl _ _ _ hP hS hls)
theorem sc_vd_fst {LP : List Nat} {D : sc_R} {x f : Nat} (hv : sc_vd LP D) (hf : f < 5) : sc_vd LP (sc_u D 6 0 x f) := by
  refine ⟨fun i hi => ?_, fun i hi => ?_, fun i hi => ?_, ?_⟩
  · rw [sc_u_row _ _ _ _ _ (fun z => by cases z.1)]; exact hv.1 i hi
  · rw [sc_u_at]
    by_cases e : i = x
    · subst e; rw [va_up_self]; exact hf
    · rw [va_up_ne _ _ e]; exact hv.2.1 i hi
  · rw [sc_u_row _ _ _ _ _ (fun z => by cases z.1)]; exact hv.2.2.1 i hi
  · rw [sc_u_row _ _ _ _ _ (fun z => by cases z.1)]; exact hv.2.2.2
theorem sc_s_fstore (h : decode cc pc = .ok (.aastore, 1)) : sc_Snd y cc nL rt pc (pc + 1) sc_fst := by
  intro l d p e s m args below meth c dC dI ad cA LP o A C Q hC hO j k hj hk lv st I D hf hv hs hl H locs ls hP hS hls
  obtain ⟨hx, hb, hr, hml, hown, hts, hlk, hKN, hD⟩ := id hC
  obtain ⟨f, x, i, r, rfl, hin, hf⟩ := sc_prir_e hf
  have hff : f < 5 := sc_okh hs
  obtain ⟨-, he⟩ := sc_obj (ad := ad) (cA := cA) (o := o) (I := I) (D := D) (k := 0) (i := f) (LP := LP) (Or.inl rfl) hff
  refine va_astq (r := sc_cl 0) hx hb hKN.1 hP (hD I D) hS 8 24 (sc_pl 0 f) 0 sc_w_stages rfl he rfl hin h (fun H1 locs1 hP hD1 hS => ?_)
  rw [sc_w_stageset] at hP
  exact hk _ _ _ _ hf (sc_vd_fst hv hff) (sc_okt (sc_okt (sc_okt hs))) hl _ _ _ hP hS hls
theorem sc_s_retI {nx : Nat} (h : decode cc pc = .ok (.ireturn, 1)) (hrt : rt = some .int) : sc_Snd y cc nL rt pc nx sc_retI := by
  intro l d p e s m args below meth c dC dI ad cA LP o A C Q hC hO j k hj hk lv st I D hf hv hs hl H locs ls hP hS hls
  obtain ⟨hx, hb, hr, hml, hown, hts, hlk, hKN, hD⟩ := id hC
  obtain ⟨x, r, rfl, hf⟩ := sc_p1_e hf
  match r, hf with
  | [], hf => exact W.iret hx hb (hr.trans hrt) (fun t ht hW => ⟨some (.inl x), I, D, rfl, hf, (fun v z => by cases z; trivial), hv, by rw [ht]; exact hP, hS.F ht⟩) hS.2.2 h hlk
theorem sc_s_retZ {nx : Nat} (h : decode cc pc = .ok (.ireturn, 1)) (hrt : rt = some .boolean) : sc_Snd y cc nL rt pc nx sc_retZ := by
  intro l d p e s m args below meth c dC dI ad cA LP o A C Q hC hO j k hj hk lv st I D hf hv hs hl H locs ls hP hS hls
  obtain ⟨hx, hb, hr, hml, hown, hts, hlk, hKN, hD⟩ := id hC
  obtain ⟨x, r, rfl, hf⟩ := sc_p1_e hf
  match r, hf with
  | [], ⟨hz, hf⟩ => exact W.zret hx hb (hr.trans hrt) (sc_nz hz).1 (fun t ht hW => ⟨some (.inl x), I, D, rfl, hf, (fun v z => by cases z; trivial), hv, by rw [ht]; exact hP, hS.F ht⟩) hS.2.2 h hlk
theorem sc_s_retV {nx : Nat} (h : decode cc pc = .ok (.return_, 1)) (hrt : rt = none) : sc_Snd y cc nL rt pc nx sc_retV := by
  intro l d p e s m args below meth c dC dI ad cA LP o A C Q hC hO j k hj hk lv st I D hf hv hs hl H locs ls hP hS hls
  obtain ⟨hx, hb, hr, hml, hown, hts, hlk, hKN, hD⟩ := id hC
  match st, hf with
  | [], hf => exact W.vret hx hb (hr.trans hrt) (fun t ht hW => ⟨none, I, D, rfl, hf, (fun v z => by cases z), hv, by rw [ht]; exact hP, hS.F ht⟩) hS.2.2 h hlk
end
theorem sc_call {p : Program} {l : Launch} {e : Env} {R : Room} {s : State} {m : MethodId} {args : Array Value} {below : List Frame} {meth : Method} {c : Code} {H : Heap} {locs : List Loc} {cells slots mc ms : Nat} {Qf : State → Prop} {pc : Nat} {ls : Array Slot} {st0 rest : List Value} {dC : Nat → ClassId} {dI : Nat → Nat → Nat} {ad : Nat → Nat} {cA : Nat → ClassId} {LP : List Nat} {o : Nat → Int64} {A : Nat → Prop} {K : sc_RT} {a : Array Value}
    (hr : va_Run p l e R s m args below meth c H locs cells slots mc ms (F0 m pc ls st0) rest (sc_Qc dC dI ad cA LP o A K a) A) (hS : va_S A s.heap H locs)
    (kk : ∀ (r : Option sc_V) (I : sc_I) (D : sc_R) (H1 : Heap) (locs1 : List Loc), K r I D → (∀ v, r = some v → sc_ok LP v) → sc_vd LP D → va_P (dC, dI) vwCl (sc_w ad cA LP o I D) H1 → va_S A s.heap H1 locs1 → W p l e R s m args below meth c H1 locs1 (cells + mc) (slots + ms) Qf (F0 m (pc + 3) ls ((r.map (sc_tv ad)).toList ++ rest))) : W p l e R s m args below meth c H locs cells slots Qf (F0 m pc ls st0) := by
  intro T hT X
  obtain ⟨v, st₀, t, T', L, h0, X', hL, e1, e2, ⟨r, I, D, hv, hq, hok, hvd, hP, hz, hk⟩, st⟩ := hr T hT X
  cases hv
  rw [h0] at hz hk
  obtain ⟨t2, a1, b1⟩ := kk r I D T'.heap (locs ++ L) hq hok hvd (by rw [e1]; exact hP)
    ⟨Nat.le_trans hS.1 (by rw [e1]; exact hz), fun q h1 h2 => by rw [e1, hk q (Nat.lt_of_lt_of_le h1 hS.1) h2]; exact hS.2.1 q h1 h2, fun q hq => (List.mem_append.mp hq).elim (hS.2.2 q) (hL q)⟩ T' rfl X'
  exact ⟨t2, st t2 a1, b1⟩
theorem sc_cats (ad : Nat → Nat) : ∀ r : List sc_V, ((r.map (sc_tv ad)).map fun v => v.category).sum = r.length
  | [] => rfl
  | v :: r => by
    simp only [List.map_cons, List.sum_cons, sc_tv_cat, List.length_cons]
    have := sc_cats ad r
    omega
theorem sc_blind {dC : Nat → ClassId} {dI : Nat → Nat → Nat} {ad : Nat → Nat} {cA : Nat → ClassId} {LP : List Nat} {o : Nat → Int64} {A : Nat → Prop} {as : List sc_V} {I : sc_I} {D : sc_R} : FrameBlind (sc_Pc dC dI ad cA LP o A as I D) := fun a U g mk q => ⟨q.1, sc_KN_same (U := U.calling g mk a) rfl q.2.1, q.2.2⟩
theorem sc_gws {y y' : MethodName} {cc cc' : ByteArray} {nL nL' : Nat} {rt rt' : Option FieldType} (h : Cond.code y' cc' nL' rt' ∈ sc_G) : GoodIn (sc_ws y cc nL rt) (sc_ws y' cc' nL' rt') := fun w hw => by
  rcases List.mem_cons.mp hw with rfl | hw
  · exact ⟨List.mem_cons_of_mem _ h, sc_G_good h⟩
  · exact ⟨List.mem_cons_of_mem _ hw, sc_G_good hw⟩
/-- what is known of a method that is called -/
def sc_MO (mid n : Nat) : Prop := mid < sc_nM ∧ ((sc_y mid).cls ≠ "java/lang/invoke/MethodHandle" ∧ (sc_y mid).cls ≠ "java/lang/invoke/VarHandle" ∧ (parseMethodDescriptor (sc_y mid).desc).map (fun d => d.parameters.length) = some n) ∧ sc_nL mid ≤ 11 ∧ Cond.code (sc_y mid) (sc_c mid) (sc_nL mid) (sc_rt mid) ∈ sc_G ∧ Cond.initialized (sc_y mid).cls ∈ sc_G
theorem sc_okp {LP : List Nat} {v : Option sc_V} {r : List sc_V} (h : ∀ x, v = some x → sc_ok LP x) (hr : ∀ x ∈ r, sc_ok LP x) : ∀ x ∈ sc_psh v r, sc_ok LP x := by
  cases v with
  | none => exact hr
  | some x => exact List.forall_mem_cons.mpr ⟨h x rfl, hr⟩
section
variable {y : MethodName} {cc : ByteArray} {nL : Nat} {rt : Option FieldType} {pc : Nat}
theorem sc_s_ins {idx mid n : Nat} (h : decode cc pc = .ok (.invokestatic idx, 3)) (hM : sc_MO mid n) (w1 : Cond.methodLink y.cls idx (sc_y mid) ∈ sc_G) (w2 : Cond.static (sc_y mid) ∈ sc_G) : sc_Snd y cc nL rt pc (pc + 3) (sc_ins mid n) := by
  intro l d p e s m args below meth c dC dI ad cA LP o A C Q hC hO j k hj hk lv st I D hf hv hs hl H locs ls hP hS hls
  obtain ⟨hx, hb, hr, hml, hown, hts, hlk, hKN, hD⟩ := id hC
  obtain ⟨hm, hd, hn, w5, w4⟩ := hM
  obtain ⟨as, r, rfl, hlen, hf⟩ := sc_pn_e hf
  rw [List.append_nil] at hf
  split at hf
  · rename_i hbl
    have hlr : r.length ≤ 8 := Nat.le_of_ble_eq_true hbl
    have hMt := hO mid as I D _ hm hf (fun v hv => hs v (List.mem_append_left _ (List.mem_reverse.mpr hv))) hv
    have e1 : (as.reverse ++ r).map (sc_tv ad) = (as.map (sc_tv ad)).reverse ++ r.map (sc_tv ad) := by rw [List.map_append, List.map_reverse]
    rw [e1]
    have hg : GoodIn (sc_ws y cc nL rt) (va_wsS y.cls idx (sc_y mid) (sc_ws (sc_y mid) (sc_c mid) (sc_nL mid) (sc_rt mid))) := by
      intro w hw
      rcases List.mem_append.mp hw with hw | hw
      · simp only [List.mem_cons, List.not_mem_nil, or_false] at hw
        rcases hw with rfl | rfl | rfl
        · exact ⟨List.mem_cons_of_mem _ w1, sc_G_good w1⟩
        · exact ⟨List.mem_cons_of_mem _ w2, sc_G_good w2⟩
        · exact ⟨List.mem_cons_of_mem _ w4, sc_G_good w4⟩
      · exact sc_gws w5 w hw
    refine sc_call (va_runS (As := as.map (sc_tv ad)) (rest := r.map (sc_tv ad)) ⟨hx, hb, hml, hown, hts⟩ hMt (va_cwS n hts hg rfl rfl rfl hd ⟨Nat.le_refl _, by show 8 + (sc_nL mid + 11) + 30 * d ≤ 30 * (d + 1); omega⟩) ⟨sc_blind, fun U hU hW => ⟨rfl, sc_KN_warm hW hKN, by rw [hU]; exact hP⟩⟩ rfl (by rw [List.length_map]; exact hlen) hls.1 rfl (lv_room (by rw [sc_cats]; exact hlr)) h ⟨Nat.le_refl _, Nat.le_refl _⟩) hS (fun v I' D' H1 locs1 hq hok hvd hP hS => ?_)
    rw [← sc_psh_map]
    exact hk _ _ _ _ hq hvd (sc_okp hok (fun x hx => hs x (List.mem_append_right _ hx))) hl _ _ _ hP hS hls
  · exact hf.elim
theorem sc_s_inv {idx mid k1 n : Nat} (h : decode cc pc = .ok (.invokevirtual idx, 3)) (hM : sc_MO mid n) (hk1 : k1 < 4) (hc1 : (sc_y mid).cls = (sc_cl k1).1) (w1 : Cond.methodLink y.cls idx (sc_y mid) ∈ sc_G) (w2 : Cond.instanceMethod (sc_y mid) ∈ sc_G) (w3 : Cond.selects (sc_cl k1).1 (sc_y mid) (sc_y mid) ∈ sc_G) : sc_Snd y cc nL rt pc (pc + 3) (sc_inv mid k1 (n + 1)) := by
  intro l d p e s m args below meth c dC dI ad cA LP o A C Q hC hO j k hj hk lv st I D hf hv hs hl H locs ls hP hS hls
  obtain ⟨hx, hb, hr, hml, hown, hts, hlk, hKN, hD⟩ := id hC
  obtain ⟨hm, hd, hn, w5, w4⟩ := hM
  rw [hc1] at w4
  obtain ⟨as, r, rfl, hlen, hf⟩ := sc_pn_e hf
  rw [List.append_nil] at hf
  split at hf
  · rename_i hbl
    have hlr : r.length ≤ 8 := Nat.le_of_ble_eq_true hbl
    obtain ⟨hf, i, as', rfl⟩ := sc_pv_e hf
    have hoks : ∀ v ∈ (.inr (k1, i) :: as' : List sc_V), sc_ok LP v := fun v hv => hs v (List.mem_append_left _ (List.mem_reverse.mpr hv))
    have hMt := hO mid _ I D _ hm hf hoks hv
    have e1 : ((.inr (k1, i) :: as' : List sc_V).reverse ++ r).map (sc_tv ad) = (as'.map (sc_tv ad)).reverse ++ .ref (sc_ad ad k1 i) :: r.map (sc_tv ad) := by simp [sc_tv]
    rw [e1]
    obtain ⟨q0, he⟩ := sc_objx (ad := ad) (cA := cA) (o := o) (I := I) (D := D) hk1 (sc_okh hoks)
    have hg : GoodIn (sc_ws y cc nL rt) (wsV y.cls idx (sc_cl k1).1 (sc_y mid) (sc_ws (sc_y mid) (sc_c mid) (sc_nL mid) (sc_rt mid))) := by
      intro w hw
      rcases List.mem_append.mp hw with hw | hw
      · simp only [List.mem_cons, List.not_mem_nil, or_false] at hw
        rcases hw with rfl | rfl | rfl | rfl
        · exact ⟨List.mem_cons_of_mem _ w1, sc_G_good w1⟩
        · exact ⟨List.mem_cons_of_mem _ w2, sc_G_good w2⟩
        · exact ⟨List.mem_cons_of_mem _ w3, sc_G_good w3⟩
        · exact ⟨List.mem_cons_of_mem _ w4, sc_G_good w4⟩
      · exact sc_gws w5 w hw
    refine sc_call (va_runV (As := as'.map (sc_tv ad)) (rest := r.map (sc_tv ad)) ⟨hx, hb, hml, hown, hts⟩ hMt (cwV n hts hg rfl rfl rfl ⟨hc1, hd⟩ ⟨Nat.le_refl _, by show 8 + (sc_nL mid + 11) + 30 * d ≤ 30 * (d + 1); omega⟩) ⟨sc_blind, va_recv hKN.1 hP (sc_cl_at hk1) he, fun U hU hW => ⟨rfl, sc_KN_warm hW hKN, by rw [hU]; exact hP⟩⟩ rfl (by rw [List.length_map]; simpa using hlen) hls.1 rfl (lv_room (by rw [sc_cats]; exact hlr)) h ⟨Nat.le_refl _, Nat.le_refl _⟩) hS (fun v I' D' H1 locs1 hq hok hvd hP hS => ?_)
    rw [← sc_psh_map]
    exact hk _ _ _ _ hq hvd (sc_okp hok (fun x hx => hs x (List.mem_append_right _ hx))) hl _ _ _ hP hS hls
  · exact hf.elim
theorem sc_s_invN {idx mid k1 n : Nat} {host : String} (h : decode cc pc = .ok (.invokevirtual idx, 3)) (hM : sc_MO mid n) (hk1 : k1 < 4) (hc1 : (sc_y mid).cls = (sc_cl k1).1) (w1 : (y.cls, idx, sc_y mid, host) ∈ sc_NM) (w2 : Cond.instanceMethod (sc_y mid) ∈ sc_G) (w3 : Cond.selects (sc_cl k1).1 (sc_y mid) (sc_y mid) ∈ sc_G) : sc_Snd y cc nL rt pc (pc + 3) (sc_inv mid k1 (n + 1)) := by
  intro l d p e s m args below meth c dC dI ad cA LP o A C Q hC hO j k hj hk lv st I D hf hv hs hl H locs ls hP hS hls
  obtain ⟨hx, hb, hr, hml, hown, hts, hlk, hKN, hD⟩ := id hC
  obtain ⟨hm, hd, hn, w5, w4⟩ := hM
  obtain ⟨as, r, rfl, hlen, hf⟩ := sc_pn_e hf
  rw [List.append_nil] at hf
  split at hf
  · rename_i hbl
    have hlr : r.length ≤ 8 := Nat.le_of_ble_eq_true hbl
    obtain ⟨hf, i, as', rfl⟩ := sc_pv_e hf
    have hoks : ∀ v ∈ (.inr (k1, i) :: as' : List sc_V), sc_ok LP v := fun v hv => hs v (List.mem_append_left _ (List.mem_reverse.mpr hv))
    have hMt := hO mid _ I D _ hm hf hoks hv
    have e1 : ((.inr (k1, i) :: as' : List sc_V).reverse ++ r).map (sc_tv ad) = (as'.map (sc_tv ad)).reverse ++ .ref (sc_ad ad k1 i) :: r.map (sc_tv ad) := by simp [sc_tv]
    rw [e1]
    obtain ⟨q0, he⟩ := sc_objx (ad := ad) (cA := cA) (o := o) (I := I) (D := D) hk1 (sc_okh hoks)
    refine sc_call (va_runVN (As := as'.map (sc_tv ad)) (rest := r.map (sc_tv ad)) ⟨hx, hb, hml, hown, hts⟩ hMt ⟨va_cnB n hts (sc_gws w5) rfl rfl rfl (hKN.2.2 _ w1) (hts _ (List.mem_cons_of_mem _ w4)) hd ⟨Nat.le_refl _, by show 8 + (sc_nL mid + 11) + 30 * d ≤ 30 * (d + 1); omega⟩, hts _ (List.mem_cons_of_mem _ w2), hts _ (List.mem_cons_of_mem _ w3)⟩ ⟨sc_blind, va_recv hKN.1 hP (sc_cl_at hk1) he, fun U hU hW => ⟨rfl, sc_KN_warm hW hKN, by rw [hU]; exact hP⟩⟩ rfl (by rw [List.length_map]; simpa using hlen) hls.1 rfl (lv_room (by rw [sc_cats]; exact hlr)) h ⟨Nat.le_refl _, Nat.le_refl _⟩) hS (fun v I' D' H1 locs1 hq hok hvd hP hS => ?_)
    rw [← sc_psh_map]
    exact hk _ _ _ _ hq hvd (sc_okp hok (fun x hx => hs x (List.mem_append_right _ hx))) hl _ _ _ hP hS hls
  · exact hf.elim
theorem sc_swt_in {x : Int32} {J : Nat → Prop} {dft : Nat} : ∀ {ts : List (Int32 × Nat)}, sc_swt x J dft ts → (∃ q ∈ ts, x = q.1) → ∃ q ∈ ts, x = q.1 ∧ J q.2
  | [], _, h => by obtain ⟨q, hq, -⟩ := h; cases hq
  | q :: r, h, hq => by
    by_cases e : x = q.1
    · exact ⟨q, List.mem_cons_self, e, h.1 e⟩
    · obtain ⟨z, hz, ez⟩ := hq
      rcases List.mem_cons.mp hz with rfl | hz
      · exact absurd ez e
      · obtain ⟨w, hw, h1⟩ := sc_swt_in (h.2 e) ⟨z, hz, ez⟩
        exact ⟨w, List.mem_cons_of_mem _ hw, h1⟩
theorem sc_swt_out {x : Int32} {J : Nat → Prop} {dft : Nat} : ∀ {ts : List (Int32 × Nat)}, sc_swt x J dft ts → (∀ q ∈ ts, ¬ x = q.1) → J dft
  | [], h, _ => h
  | q :: r, h, hq => sc_swt_out (h.2 (hq q List.mem_cons_self)) (fun z hz => hq z (List.mem_cons_of_mem _ hz))
theorem sc_s_sw {dflt lo hi : Int} {offs : Array Int} {len nx dft : Nat} {ts : List (Int32 × Nat)} (h : decode cc pc = .ok (.tableswitch dflt lo hi offs, len)) (hd : (pc : Int) + dflt = (dft : Int)) (hn : hi = lo + (ts.length : Int) - 1) (hok : ∀ i : Nat, i < ts.length → ts[i]?.map (fun q => q.1.toInt) = some (lo + (i : Int)) ∧ ts[i]?.map (fun q => (q.2 : Int)) = offs[i]?.map (fun z => (pc : Int) + z)) : sc_Snd y cc nL rt pc nx (sc_sw ts dft) := by
  intro l d p e s m args below meth c dC dI ad cA LP o A C Q hC hO j k hj hk lv st I D hf hv hs hl H locs ls hP hS hls
  obtain ⟨hx, hb, hr, hml, hown, hts, hlk, hKN, hD⟩ := id hC
  obtain ⟨x, r, rfl, hg⟩ := sc_p1_e hf
  have hmem : ∀ q ∈ ts, ∃ (i : Nat), i < ts.length ∧ ts[i]? = some q ∧ q.1.toInt = lo + (i : Int) := by
    intro q hq
    obtain ⟨i, hi⟩ := List.mem_iff_getElem?.mp hq
    have hlt : i < ts.length := (List.getElem?_eq_some_iff.mp hi).1
    have h1 := (hok i hlt).1
    rw [hi] at h1
    exact ⟨i, hlt, hi, Option.some.inj h1⟩
  by_cases hin : lo ≤ x.toInt ∧ x.toInt ≤ hi
  · have hlt : (x.toInt - lo).toNat < ts.length := by omega
    obtain ⟨q, hq⟩ : ∃ q, ts[(x.toInt - lo).toNat]? = some q := ⟨_, List.getElem?_eq_getElem hlt⟩
    have hqm : q ∈ ts := List.mem_of_getElem? hq
    have hx1 := (hok _ hlt).1
    rw [hq] at hx1
    have hx2 : q.1.toInt = lo + ((x.toInt - lo).toNat : Int) := Option.some.inj hx1
    have ex : x = q.1 := Int32.toInt_inj.mp (by omega)
    obtain ⟨z, hz, ez, hJ⟩ := sc_swt_in (ts := ts) (dft := dft) hg ⟨q, hqm, ex⟩
    obtain ⟨i, hi1, hi2, hi3⟩ := hmem z hz
    have ei : i = (x.toInt - lo).toNat := by
      rw [← ez] at hi3
      omega
    subst ei
    have ho := (hok _ hi1).2
    rw [hi2] at ho
    cases hoff : offs[(x.toInt - lo).toNat]? with
    | none => rw [hoff] at ho; cases ho
    | some off =>
      rw [hoff] at ho
      exact lv_tableIn hx hb h (by omega) (by omega) hoff (Option.some.inj ho).symm (hj _ _ _ _ _ hJ hv (sc_okt hs) hl _ _ _ hP hS hls)
  · have hJ := sc_swt_out (ts := ts) (dft := dft) hg (fun q hq e => hin (by
      obtain ⟨i, hi1, hi2, hi3⟩ := hmem q hq
      rw [← e] at hi3
      omega))
    exact lv_tableOut hx hb h (by omega) hd (hj _ _ _ _ _ hJ hv (sc_okt hs) hl _ _ _ hP hS hls)
end
end
section
def sc_hd (r : List (Nat × sc_EN)) : Nat := match r with
  | [] => 0
  | q :: _ => q.1
def sc_TS (y : MethodName) (cc : ByteArray) (nL : Nat) (rt : Option FieldType) : List (Nat × sc_EN) → Prop
  | [] => True
  | q :: r => sc_Snd y cc nL rt q.1 (sc_hd r) q.2 ∧ sc_TS y cc nL rt r
theorem sc_tc {y : MethodName} {cc : ByteArray} {nL : Nat} {rt : Option FieldType} {pc : Nat} {f : sc_EN} {r : List (Nat × sc_EN)} (h : sc_Snd y cc nL rt pc (sc_hd r) f) (hr : sc_TS y cc nL rt r) : sc_TS y cc nL rt ((pc, f) :: r) := ⟨h, hr⟩
noncomputable def st_X0_does : List (Nat × sc_EN) := [(0, sc_ldA 0), (1, sc_get 0 0), (4, sc_if_eq 29), (7, sc_ldA 0), (8, sc_get 0 5), (11, sc_if_ne 29), (14, sc_ldA 0), (15, sc_get 0 1), (18, sc_get 1 0), (21, sc_ldI 1), (22, sc_ic_ne 29), (25, sc_cst 1), (26, sc_goto 30), (29, sc_cst 0), (30, sc_retZ)]
noncomputable def st_X1_writesD : List (Nat × sc_EN) := [(0, sc_ldA 0), (1, sc_get 1 0), (4, sc_cst 11), (6, sc_ic_le 27), (9, sc_ldA 0), (10, sc_get 1 0), (13, sc_cst 15), (15, sc_ic_eq 27), (18, sc_ldA 0), (19, sc_get 1 0), (22, sc_cst 16), (24, sc_ic_ne 31), (27, sc_cst 1), (28, sc_goto 32), (31, sc_cst 0), (32, sc_retZ)]
noncomputable def st_X0_writes : List (Nat × sc_EN) := [(0, sc_ldA 0), (1, sc_get 0 0), (4, sc_if_eq 43), (7, sc_ldA 0), (8, sc_get 0 5), (11, sc_if_ne 43), (14, sc_ldI 1), (15, sc_if_eq 43), (18, sc_ldA 0), (19, sc_get 0 1), (22, sc_inv 1 1 1), (25, sc_if_eq 43), (28, sc_ldA 0), (29, sc_get 0 1), (32, sc_get 1 1), (35, sc_ldI 1), (36, sc_ic_ne 43), (39, sc_cst 1), (40, sc_goto 44), (43, sc_cst 0), (44, sc_retZ)]
noncomputable def st_X1_isBranch : List (Nat × sc_EN) := [(0, sc_ldA 0), (1, sc_get 1 0), (4, sc_cst 13), (6, sc_ic_eq 18), (9, sc_ldA 0), (10, sc_get 1 0), (13, sc_cst 14), (15, sc_ic_ne 22), (18, sc_cst 1), (19, sc_goto 23), (22, sc_cst 0), (23, sc_retZ)]
noncomputable def st_X1_usesT : List (Nat × sc_EN) := [(0, sc_ldA 0), (1, sc_get 1 0), (4, sc_cst 8), (6, sc_ic_le 25), (9, sc_ldA 0), (10, sc_get 1 0), (13, sc_cst 12), (15, sc_ic_eq 25), (18, sc_ldA 0), (19, sc_inv 3 1 1), (22, sc_if_eq 29), (25, sc_cst 1), (26, sc_goto 30), (29, sc_cst 0), (30, sc_retZ)]
noncomputable def st_X1_usesS : List (Nat × sc_EN) := [(0, sc_ldA 0), (1, sc_get 1 0), (4, sc_cst 9), (6, sc_ic_le 34), (9, sc_ldA 0), (10, sc_get 1 0), (13, sc_cst 11), (15, sc_ic_eq 34), (18, sc_ldA 0), (19, sc_get 1 0), (22, sc_cst 16), (24, sc_ic_eq 34), (27, sc_ldA 0), (28, sc_inv 4 1 1), (31, sc_if_eq 38), (34, sc_cst 1), (35, sc_goto 39), (38, sc_cst 0), (39, sc_retZ)]
noncomputable def st_X1_touchesData : List (Nat × sc_EN) := [(0, sc_ldA 0), (1, sc_get 1 0), (4, sc_cst 11), (6, sc_ic_eq 18), (9, sc_ldA 0), (10, sc_get 1 0), (13, sc_cst 12), (15, sc_ic_ne 22), (18, sc_cst 1), (19, sc_goto 23), (22, sc_cst 0), (23, sc_retZ)]
noncomputable def st_X1_workCycles : List (Nat × sc_EN) := [(0, sc_ldA 0), (1, sc_get 1 0), (4, sc_cst 7), (6, sc_ic_ne 11), (9, sc_cst 3), (10, sc_retI), (11, sc_ldA 0), (12, sc_get 1 0), (15, sc_cst 8), (17, sc_ic_ne 25), (20, sc_cst 6), (22, sc_goto 26), (25, sc_cst 1), (26, sc_retI)]
noncomputable def st_X2_checkIndex : List (Nat × sc_EN) := [(0, sc_ldI 0), (1, sc_if_lt 9), (4, sc_ldI 0), (5, sc_ldI 1), (6, sc_ic_lt 19), (9, sc_bad), (12, sc_dup), (13, sc_bad), (15, sc_bad), (18, sc_bad), (19, sc_retV)]
noncomputable def st_X2_checkArgument : List (Nat × sc_EN) := [(0, sc_ldI 0), (1, sc_ldI 1), (2, sc_ic_lt 10), (5, sc_ldI 0), (6, sc_ldI 2), (7, sc_ic_le 20), (10, sc_bad), (13, sc_dup), (14, sc_bad), (16, sc_bad), (19, sc_bad), (20, sc_retV)]
noncomputable def st_X2_poke : List (Nat × sc_EN) := [(0, sc_ldI 1), (1, sc_cst 32), (3, sc_ins 8 2), (6, sc_ldA 0), (7, sc_get 2 2), (10, sc_ldI 1), (11, sc_ald), (12, sc_stI 3), (13, sc_ldA 0), (14, sc_get 2 2), (17, sc_ldI 1), (18, sc_ldI 2), (19, sc_ast), (20, sc_ldI 3), (21, sc_retI)]
noncomputable def st_X2_peek : List (Nat × sc_EN) := [(0, sc_ldI 1), (1, sc_cst 32), (3, sc_ins 8 2), (6, sc_ldA 0), (7, sc_get 2 2), (10, sc_ldI 1), (11, sc_ald), (12, sc_retI)]
noncomputable def st_X2_set : List (Nat × sc_EN) := [(0, sc_ldI 1), (1, sc_cst 16), (3, sc_ins 8 2), (6, sc_ldI 1), (7, sc_if_ne 20), (10, sc_bad), (13, sc_dup), (14, sc_bad), (16, sc_bad), (19, sc_bad), (20, sc_ldA 0), (21, sc_get 2 3), (24, sc_ldI 1), (25, sc_ald), (26, sc_stI 3), (27, sc_ldA 0), (28, sc_get 2 3), (31, sc_ldI 1), (32, sc_ldI 2), (33, sc_ast), (34, sc_ldI 3), (35, sc_retI)]
noncomputable def st_X2_register : List (Nat × sc_EN) := [(0, sc_ldI 1), (1, sc_cst 16), (3, sc_ins 8 2), (6, sc_ldA 0), (7, sc_get 2 3), (10, sc_ldI 1), (11, sc_ald), (12, sc_retI)]
noncomputable def st_X2_emptyStagesBelow : List (Nat × sc_EN) := [(0, sc_cst 0), (1, sc_stI 2), (2, sc_ldI 2), (3, sc_ldI 1), (4, sc_ic_ge 23), (7, sc_ldA 0), (8, sc_get 2 5), (11, sc_ldI 2), (12, sc_fld), (13, sc_cst 0), (14, sc_putZ 0 0), (17, sc_inc 2 1), (20, sc_goto 2), (23, sc_retV)]
noncomputable def st_X2_start : List (Nat × sc_EN) := [(0, sc_ldI 1), (1, sc_cst 64), (3, sc_ins 8 2), (6, sc_ldA 0), (7, sc_cst 5), (8, sc_inv 14 2 2), (11, sc_ldA 0), (12, sc_ldI 1), (13, sc_putI 2 7), (16, sc_ldA 0), (17, sc_cst 0), (18, sc_putZ 2 11), (21, sc_retV)]
noncomputable def st_X2_handler : List (Nat × sc_EN) := [(0, sc_ldI 1), (1, sc_cst 64), (3, sc_ins 8 2), (6, sc_ldA 0), (7, sc_get 2 8), (10, sc_stI 2), (11, sc_ldA 0), (12, sc_ldI 1), (13, sc_putI 2 8), (16, sc_ldI 2), (17, sc_retI)]
noncomputable def st_X2_takeFault : List (Nat × sc_EN) := [(0, sc_ldA 0), (1, sc_dup), (2, sc_get 2 16), (5, sc_cst 1), (6, sc_iadd), (7, sc_putI 2 16), (10, sc_ldA 0), (11, sc_ldA 1), (12, sc_get 0 5), (15, sc_putI 2 9), (18, sc_ldA 0), (19, sc_ldA 1), (20, sc_get 0 2), (23, sc_putI 2 10), (26, sc_ldA 0), (27, sc_cst 5), (28, sc_inv 14 2 2), (31, sc_ldA 0), (32, sc_ldA 0), (33, sc_get 2 8), (36, sc_putI 2 7), (39, sc_retV)]
noncomputable def st_X2_retire : List (Nat × sc_EN) := [(0, sc_ldA 1), (1, sc_get 0 1), (4, sc_get 1 1), (7, sc_stI 2), (8, sc_ldA 1), (9, sc_ldI 2), (10, sc_inv 2 0 2), (13, sc_if_eq 26), (16, sc_ldA 0), (17, sc_get 2 3), (20, sc_ldI 2), (21, sc_ldA 1), (22, sc_get 0 7), (25, sc_ast), (26, sc_ldA 0), (27, sc_get 2 6), (30, sc_ldA 0), (31, sc_get 2 13), (34, sc_cst 16), (36, sc_irem), (37, sc_ldA 1), (38, sc_get 0 2), (41, sc_ast), (42, sc_ldA 0), (43, sc_dup), (44, sc_get 2 13), (47, sc_cst 1), (48, sc_iadd), (49, sc_putI 2 13), (52, sc_ldA 1), (53, sc_cst 0), (54, sc_putZ 0 0), (57, sc_retV)]
noncomputable def st_X2_leaveEndsCycle : List (Nat × sc_EN) := [(0, sc_ldA 1), (1, sc_get 0 0), (4, sc_if_ne 9), (7, sc_cst 0), (8, sc_retZ), (9, sc_ldA 1), (10, sc_get 0 5), (13, sc_if_eq 23), (16, sc_ldA 0), (17, sc_ldA 1), (18, sc_inv 17 2 2), (21, sc_cst 1), (22, sc_retZ), (23, sc_ldA 1), (24, sc_cst 18), (26, sc_inv 0 0 2), (29, sc_if_eq 44), (32, sc_ldA 0), (33, sc_cst 5), (34, sc_inv 14 2 2), (37, sc_ldA 0), (38, sc_cst 1), (39, sc_putZ 2 11), (42, sc_cst 1), (43, sc_retZ), (44, sc_ldA 0), (45, sc_ldA 1), (46, sc_inv 18 2 2), (49, sc_cst 0), (50, sc_retZ)]
noncomputable def st_X2_moveOnIfFree : List (Nat × sc_EN) := [(0, sc_ldA 0), (1, sc_get 2 5), (4, sc_ldI 1), (5, sc_cst 1), (6, sc_iadd), (7, sc_fld), (8, sc_get 0 0), (11, sc_if_ne 44), (14, sc_ldA 0), (15, sc_get 2 5), (18, sc_ldI 1), (19, sc_fld), (20, sc_stA 0 2), (21, sc_ldA 0), (22, sc_get 2 5), (25, sc_ldI 1), (26, sc_ldA 0), (27, sc_get 2 5), (30, sc_ldI 1), (31, sc_cst 1), (32, sc_iadd), (33, sc_fld), (34, sc_fst), (35, sc_ldA 0), (36, sc_get 2 5), (39, sc_ldI 1), (40, sc_cst 1), (41, sc_iadd), (42, sc_ldA 2), (43, sc_fst), (44, sc_retV)]
noncomputable def st_X2_passMemory : List (Nat × sc_EN) := [(0, sc_ldA 1), (1, sc_cst 11), (3, sc_inv 0 0 2), (6, sc_if_eq 25), (9, sc_ldA 1), (10, sc_ldA 0), (11, sc_get 2 2), (14, sc_ldA 1), (15, sc_get 0 6), (18, sc_ald), (19, sc_putI 0 7), (22, sc_goto 47), (25, sc_ldA 1), (26, sc_cst 12), (28, sc_inv 0 0 2), (31, sc_if_eq 47), (34, sc_ldA 0), (35, sc_get 2 2), (38, sc_ldA 1), (39, sc_get 0 6), (42, sc_ldA 1), (43, sc_get 0 7), (46, sc_ast), (47, sc_ldA 0), (48, sc_cst 3), (49, sc_inv 20 2 2), (52, sc_retV)]
noncomputable def st_X2_needsLoadAhead : List (Nat × sc_EN) := [(0, sc_ldA 0), (1, sc_get 2 5), (4, sc_cst 4), (5, sc_fld), (6, sc_stA 0 2), (7, sc_ldA 2), (8, sc_cst 11), (10, sc_inv 0 0 2), (13, sc_if_ne 18), (16, sc_cst 0), (17, sc_retZ), (18, sc_ldA 1), (19, sc_inv 5 1 1), (22, sc_if_eq 36), (25, sc_ldA 2), (26, sc_ldA 1), (27, sc_get 1 2), (30, sc_inv 2 0 2), (33, sc_if_ne 54), (36, sc_ldA 1), (37, sc_inv 4 1 1), (40, sc_if_eq 58), (43, sc_ldA 2), (44, sc_ldA 1), (45, sc_get 1 3), (48, sc_inv 2 0 2), (51, sc_if_eq 58), (54, sc_cst 1), (55, sc_goto 59), (58, sc_cst 0), (59, sc_retZ)]
noncomputable def st_X2_handedOn : List (Nat × sc_EN) := [(0, sc_ldA 0), (1, sc_get 2 5), (4, sc_cst 4), (5, sc_fld), (6, sc_stA 0 2), (7, sc_ldA 2), (8, sc_ldI 1), (9, sc_inv 2 0 2), (12, sc_if_eq 22), (15, sc_ldA 2), (16, sc_get 0 7), (19, sc_goto 28), (22, sc_ldA 0), (23, sc_get 2 3), (26, sc_ldI 1), (27, sc_ald), (28, sc_retI)]
noncomputable def st_X2_isWord : List (Nat × sc_EN) := [(0, sc_ldI 0), (1, sc_if_lt 14), (4, sc_ldI 0), (5, sc_cst 32), (7, sc_ic_ge 14), (10, sc_cst 1), (11, sc_goto 15), (14, sc_cst 0), (15, sc_retZ)]
noncomputable def st_X2_faultOf : List (Nat × sc_EN) := [(0, sc_ldA 0), (1, sc_get 1 0), (4, sc_cst 17), (6, sc_ic_ne 11), (9, sc_cst 2), (10, sc_retI), (11, sc_ldA 0), (12, sc_inv 6 1 1), (15, sc_if_eq 32), (18, sc_ldI 1), (19, sc_ldA 0), (20, sc_get 1 4), (23, sc_iadd), (24, sc_ins 24 1), (27, sc_if_ne 32), (30, sc_cst 3), (31, sc_retI), (32, sc_ldA 0), (33, sc_get 1 0), (36, sc_cst 8), (38, sc_ic_ne 49), (41, sc_ldI 2), (42, sc_if_ne 49), (45, sc_cst 4), (46, sc_goto 50), (49, sc_cst 0), (50, sc_retI)]
noncomputable def st_X2_valueOf : List (Nat × sc_EN) := [(0, sc_ldA 0), (1, sc_get 0 1), (4, sc_get 1 0), (7, sc_sw [(0, 88), (1, 92), (2, 96), (3, 100), (4, 104), (5, 108), (6, 115), (7, 126), (8, 130), (9, 142), (10, 152), (11, 176), (12, 160), (13, 176), (14, 176), (15, 162), (16, 169)] 176), (88, sc_ldI 1), (89, sc_ldI 2), (90, sc_iadd), (91, sc_retI), (92, sc_ldI 1), (93, sc_ldI 2), (94, sc_isub), (95, sc_retI), (96, sc_ldI 1), (97, sc_ldI 2), (98, sc_iand), (99, sc_retI), (100, sc_ldI 1), (101, sc_ldI 2), (102, sc_ior), (103, sc_retI), (104, sc_ldI 1), (105, sc_ldI 2), (106, sc_ixor), (107, sc_retI), (108, sc_ldI 1), (109, sc_ldI 2), (110, sc_cst 31), (112, sc_iand), (113, sc_ishl), (114, sc_retI), (115, sc_ldI 1), (116, sc_ldI 2), (117, sc_ic_ge 124), (120, sc_cst 1), (121, sc_goto 125), (124, sc_cst 0), (125, sc_retI), (126, sc_ldI 1), (127, sc_ldI 2), (128, sc_imul), (129, sc_retI), (130, sc_ldI 2), (131, sc_if_ne 138), (134, sc_cst 0), (135, sc_goto 141), (138, sc_ldI 1), (139, sc_ldI 2), (140, sc_idiv), (141, sc_retI), (142, sc_ldI 1), (143, sc_ldA 0), (144, sc_get 0 1), (147, sc_get 1 4), (150, sc_iadd), (151, sc_retI), (152, sc_ldA 0), (153, sc_get 0 1), (156, sc_get 1 4), (159, sc_retI), (160, sc_ldI 2), (161, sc_retI), (162, sc_ldA 0), (163, sc_get 0 2), (166, sc_cst 1), (167, sc_iadd), (168, sc_retI), (169, sc_ldA 0), (170, sc_get 0 2), (173, sc_cst 1), (174, sc_iadd), (175, sc_retI), (176, sc_cst 0), (177, sc_retI)]
noncomputable def st_X2_goesElsewhere : List (Nat × sc_EN) := [(0, sc_ldI 0), (1, sc_sw [(13, 32), (14, 43), (15, 54), (16, 56)] 58), (32, sc_ldI 1), (33, sc_ldI 2), (34, sc_ic_ne 41), (37, sc_cst 1), (38, sc_goto 42), (41, sc_cst 0), (42, sc_retZ), (43, sc_ldI 1), (44, sc_ldI 2), (45, sc_ic_eq 52), (48, sc_cst 1), (49, sc_goto 53), (52, sc_cst 0), (53, sc_retZ), (54, sc_cst 1), (55, sc_retZ), (56, sc_cst 1), (57, sc_retZ), (58, sc_cst 0), (59, sc_retZ)]
noncomputable def st_J9_floorMod_7cf53 : List (Nat × sc_EN) := [(0, sc_ldI 0), (1, sc_ldI 1), (2, sc_irem), (3, sc_stI 2), (4, sc_ldI 0), (5, sc_ldI 1), (6, sc_ixor), (7, sc_if_ge 18), (10, sc_ldI 2), (11, sc_if_eq 18), (14, sc_ldI 2), (15, sc_ldI 1), (16, sc_iadd), (17, sc_retI), (18, sc_ldI 2), (19, sc_retI)]
noncomputable def st_X2_learn : List (Nat × sc_EN) := [(0, sc_ldI 1), (1, sc_cst 8), (3, sc_ins 28 2), (6, sc_stI 3), (7, sc_ldA 0), (8, sc_get 2 4), (11, sc_ldI 3), (12, sc_ald), (13, sc_ldI 2), (14, sc_if_eq 21), (17, sc_cst 1), (18, sc_goto 22), (21, sc_cst (-1)), (22, sc_iadd), (23, sc_stI 4), (25, sc_ldA 0), (26, sc_get 2 4), (29, sc_ldI 3), (30, sc_cst 0), (31, sc_cst 3), (32, sc_ldI 4), (34, sc_ins 71 2), (37, sc_ins 70 2), (40, sc_ast), (41, sc_retV)]
noncomputable def st_X2_target : List (Nat × sc_EN) := [(0, sc_ldA 0), (1, sc_get 0 1), (4, sc_get 1 0), (7, sc_cst 16), (9, sc_ic_ne 16), (12, sc_ldI 1), (13, sc_goto 20), (16, sc_ldA 0), (17, sc_get 0 2), (20, sc_stI 2), (21, sc_ldI 2), (22, sc_ldA 0), (23, sc_get 0 1), (26, sc_get 1 4), (29, sc_iadd), (30, sc_retI)]
noncomputable def st_X2_holdAgainstGuess : List (Nat × sc_EN) := [(0, sc_ldI 2), (1, sc_ldA 1), (2, sc_get 0 3), (5, sc_ic_eq 28), (8, sc_ldA 0), (9, sc_dup), (10, sc_get 2 15), (13, sc_cst 1), (14, sc_iadd), (15, sc_putI 2 15), (18, sc_ldA 0), (19, sc_cst 2), (20, sc_inv 14 2 2), (23, sc_ldA 0), (24, sc_ldI 2), (25, sc_putI 2 7), (28, sc_retV)]
noncomputable def st_X2_finishWork : List (Nat × sc_EN) := [(0, sc_ldA 0), (1, sc_ldA 1), (2, sc_get 0 1), (5, sc_get 1 2), (8, sc_inv 23 2 2), (11, sc_stI 2), (12, sc_ldA 0), (13, sc_ldA 1), (14, sc_get 0 1), (17, sc_get 1 3), (20, sc_inv 23 2 2), (23, sc_stI 3), (24, sc_ldA 1), (25, sc_get 0 5), (28, sc_if_ne 44), (31, sc_ldA 1), (32, sc_ldA 1), (33, sc_get 0 1), (36, sc_ldI 2), (37, sc_ldI 3), (38, sc_ins 25 3), (41, sc_putI 0 5), (44, sc_ldA 1), (45, sc_get 0 5), (48, sc_if_eq 52), (51, sc_retV), (52, sc_ldA 1), (53, sc_ldA 1), (54, sc_ldI 2), (55, sc_ldI 3), (56, sc_ins 26 3), (59, sc_putI 0 7), (62, sc_ldA 1), (63, sc_ldA 1), (64, sc_get 0 1), (67, sc_inv 6 1 1), (70, sc_if_eq 85), (73, sc_ldI 2), (74, sc_ldA 1), (75, sc_get 0 1), (78, sc_get 1 4), (81, sc_iadd), (82, sc_goto 86), (85, sc_cst 0), (86, sc_putI 0 6), (89, sc_ldA 1), (90, sc_get 0 1), (93, sc_get 1 0), (96, sc_ldI 2), (97, sc_ldI 3), (98, sc_ins 27 3), (101, sc_stI 4), (103, sc_ldA 1), (104, sc_get 0 1), (107, sc_inv 3 1 1), (110, sc_if_eq 123), (113, sc_ldA 0), (114, sc_ldA 1), (115, sc_get 0 2), (118, sc_ldI 4), (120, sc_inv 29 2 3), (123, sc_ldA 0), (124, sc_ldA 1), (125, sc_ldI 4), (127, sc_if_eq 138), (130, sc_ldA 1), (131, sc_ldI 2), (132, sc_ins 30 2), (135, sc_goto 144), (138, sc_ldA 1), (139, sc_get 0 2), (142, sc_cst 1), (143, sc_iadd), (144, sc_inv 31 2 3), (147, sc_retV)]
noncomputable def st_X2_workInReached : List (Nat × sc_EN) := [(0, sc_ldA 1), (1, sc_get 0 0), (4, sc_if_ne 8), (7, sc_retV), (8, sc_ldA 0), (9, sc_ldA 1), (10, sc_get 0 1), (13, sc_inv 22 2 2), (16, sc_if_eq 30), (19, sc_ldA 0), (20, sc_dup), (21, sc_get 2 14), (24, sc_cst 1), (25, sc_iadd), (26, sc_putI 2 14), (29, sc_retV), (30, sc_ldA 1), (31, sc_dup), (32, sc_get 0 4), (35, sc_cst 1), (36, sc_iadd), (37, sc_putI 0 4), (40, sc_ldA 1), (41, sc_get 0 4), (44, sc_ldA 1), (45, sc_get 0 1), (48, sc_inv 7 1 1), (51, sc_ic_ge 65), (54, sc_ldA 0), (55, sc_dup), (56, sc_get 2 14), (59, sc_cst 1), (60, sc_iadd), (61, sc_putI 2 14), (64, sc_retV), (65, sc_ldA 0), (66, sc_ldA 1), (67, sc_inv 32 2 2), (70, sc_ldA 0), (71, sc_cst 2), (72, sc_inv 20 2 2), (75, sc_retV)]
noncomputable def st_X2_guessNext : List (Nat × sc_EN) := [(0, sc_ldA 1), (1, sc_get 1 0), (4, sc_cst 15), (6, sc_ic_eq 31), (9, sc_ldA 1), (10, sc_inv 3 1 1), (13, sc_if_eq 35), (16, sc_ldA 0), (17, sc_get 2 4), (20, sc_ldI 2), (21, sc_cst 8), (23, sc_ins 28 2), (26, sc_ald), (27, sc_cst 2), (28, sc_ic_lt 35), (31, sc_cst 1), (32, sc_goto 36), (35, sc_cst 0), (36, sc_stI 3), (37, sc_ldI 3), (38, sc_if_eq 50), (41, sc_ldI 2), (42, sc_ldA 1), (43, sc_get 1 4), (46, sc_iadd), (47, sc_goto 53), (50, sc_ldI 2), (51, sc_cst 1), (52, sc_iadd), (53, sc_retI)]
noncomputable def st_X2_fetchIfFree : List (Nat × sc_EN) := [(0, sc_ldA 1), (1, sc_get 0 0), (4, sc_if_eq 8), (7, sc_retV), (8, sc_ldA 0), (9, sc_get 2 7), (12, sc_if_lt 28), (15, sc_ldA 0), (16, sc_get 2 7), (19, sc_cst 64), (21, sc_ic_ge 28), (24, sc_cst 1), (25, sc_goto 29), (28, sc_cst 0), (29, sc_stI 2), (30, sc_ldA 1), (31, sc_cst 1), (32, sc_putZ 0 0), (35, sc_ldA 1), (36, sc_ldA 0), (37, sc_get 2 7), (40, sc_putI 0 2), (43, sc_ldA 1), (44, sc_ldI 2), (45, sc_if_eq 60), (48, sc_ldA 0), (49, sc_get 2 1), (52, sc_ldA 0), (53, sc_get 2 7), (56, sc_nld), (57, sc_goto 64), (60, sc_ldA 0), (61, sc_get 2 0), (64, sc_putN), (67, sc_ldA 1), (68, sc_ldI 2), (69, sc_if_eq 76), (72, sc_cst 0), (73, sc_goto 77), (76, sc_cst 1), (77, sc_putI 0 5), (80, sc_ldA 1), (81, sc_cst 0), (82, sc_putI 0 4), (85, sc_ldA 1), (86, sc_cst 0), (87, sc_putI 0 6), (90, sc_ldA 1), (91, sc_cst 0), (92, sc_putI 0 7), (95, sc_ldA 1), (96, sc_ldA 0), (97, sc_ldA 1), (98, sc_get 0 1), (101, sc_ldA 0), (102, sc_get 2 7), (105, sc_inv 34 2 3), (108, sc_putI 0 3), (111, sc_ldA 0), (112, sc_ldA 1), (113, sc_get 0 3), (116, sc_putI 2 7), (119, sc_retV)]
noncomputable def st_X2_runCycle : List (Nat × sc_EN) := [(0, sc_ldA 0), (1, sc_dup), (2, sc_get 2 12), (5, sc_cst 1), (6, sc_iadd), (7, sc_putI 2 12), (10, sc_ldA 0), (11, sc_ldA 0), (12, sc_get 2 5), (15, sc_cst 4), (16, sc_fld), (17, sc_inv 19 2 2), (20, sc_if_eq 24), (23, sc_retV), (24, sc_ldA 0), (25, sc_ldA 0), (26, sc_get 2 5), (29, sc_cst 3), (30, sc_fld), (31, sc_inv 21 2 2), (34, sc_ldA 0), (35, sc_ldA 0), (36, sc_get 2 5), (39, sc_cst 2), (40, sc_fld), (41, sc_inv 33 2 2), (44, sc_ldA 0), (45, sc_cst 1), (46, sc_inv 20 2 2), (49, sc_ldA 0), (50, sc_cst 0), (51, sc_inv 20 2 2), (54, sc_ldA 0), (55, sc_ldA 0), (56, sc_get 2 5), (59, sc_cst 0), (60, sc_fld), (61, sc_inv 35 2 2), (64, sc_retV)]
noncomputable def st_X2_cycles : List (Nat × sc_EN) := [(0, sc_ldI 1), (1, sc_cst 1), (2, sc_cst 300), (5, sc_ins 9 3), (8, sc_ldA 0), (9, sc_get 2 13), (12, sc_stI 2), (13, sc_cst 0), (14, sc_stI 3), (15, sc_ldI 3), (16, sc_ldI 1), (17, sc_ic_ge 37), (20, sc_ldA 0), (21, sc_get 2 11), (24, sc_if_ne 37), (27, sc_ldA 0), (28, sc_inv 36 2 1), (31, sc_inc 3 1), (34, sc_goto 15), (37, sc_ldA 0), (38, sc_get 2 13), (41, sc_ldI 2), (42, sc_isub), (43, sc_retI)]
noncomputable def st_X2_stage : List (Nat × sc_EN) := [(0, sc_ldI 1), (1, sc_cst 5), (2, sc_ins 8 2), (5, sc_ldA 0), (6, sc_get 2 5), (9, sc_ldI 1), (10, sc_fld), (11, sc_stA 0 2), (12, sc_ldA 2), (13, sc_get 0 0), (16, sc_if_eq 26), (19, sc_ldA 2), (20, sc_get 0 2), (23, sc_goto 27), (26, sc_cst (-1)), (27, sc_retI)]
noncomputable def st_X2_counter : List (Nat × sc_EN) := [(0, sc_ldI 1), (1, sc_cst 8), (3, sc_ins 8 2), (6, sc_ldA 0), (7, sc_get 2 4), (10, sc_ldI 1), (11, sc_ald), (12, sc_retI)]
noncomputable def st_X2_retired : List (Nat × sc_EN) := [(0, sc_ldI 1), (1, sc_ldA 0), (2, sc_get 2 13), (5, sc_cst 16), (7, sc_ins 71 2), (10, sc_ins 8 2), (13, sc_ldA 0), (14, sc_get 2 6), (17, sc_ldA 0), (18, sc_get 2 13), (21, sc_cst 1), (22, sc_isub), (23, sc_ldI 1), (24, sc_isub), (25, sc_cst 16), (27, sc_irem), (28, sc_ald), (29, sc_retI)]
noncomputable def st_X2_count : List (Nat × sc_EN) := [(0, sc_ldI 1), (1, sc_sw [(0, 52), (1, 57), (2, 62), (3, 67), (4, 72), (5, 77), (6, 82), (7, 87), (8, 92)] 105), (52, sc_ldA 0), (53, sc_get 2 12), (56, sc_retI), (57, sc_ldA 0), (58, sc_get 2 13), (61, sc_retI), (62, sc_ldA 0), (63, sc_get 2 14), (66, sc_retI), (67, sc_ldA 0), (68, sc_get 2 15), (71, sc_retI), (72, sc_ldA 0), (73, sc_get 2 16), (76, sc_retI), (77, sc_ldA 0), (78, sc_get 2 7), (81, sc_retI), (82, sc_ldA 0), (83, sc_get 2 9), (86, sc_retI), (87, sc_ldA 0), (88, sc_get 2 10), (91, sc_retI), (92, sc_ldA 0), (93, sc_get 2 11), (96, sc_if_eq 103), (99, sc_cst 1), (100, sc_goto 104), (103, sc_cst 0), (104, sc_retI), (105, sc_bad), (108, sc_dup), (109, sc_bad), (111, sc_bad), (114, sc_bad)]
noncomputable def st_X3_thrown : List (Nat × sc_EN) := [(0, sc_ldA 0), (1, sc_get 3 0), (4, sc_retI)]
noncomputable def st_X3_out : List (Nat × sc_EN) := [(0, sc_ldA 0), (1, sc_ldI 1), (2, sc_ldI 2), (3, sc_ic_lt 15), (6, sc_ldI 1), (7, sc_ldI 3), (8, sc_ic_gt 15), (11, sc_cst 0), (12, sc_goto 16), (15, sc_cst 1), (16, sc_putI 3 0), (19, sc_ldA 0), (20, sc_get 3 0), (23, sc_if_le 30), (26, sc_cst 1), (27, sc_goto 31), (30, sc_cst 0), (31, sc_retZ)]
noncomputable def st_X3_in : List (Nat × sc_EN) := [(0, sc_ldI 0), (1, sc_ldI 1), (2, sc_ic_lt 14), (5, sc_ldI 0), (6, sc_ldI 2), (7, sc_ic_gt 14), (10, sc_cst 1), (11, sc_goto 15), (14, sc_cst 0), (15, sc_retZ)]
noncomputable def st_X3_put : List (Nat × sc_EN) := [(0, sc_ldA 0), (1, sc_ldI 1), (2, sc_cst 0), (3, sc_cst 63), (5, sc_inv 43 3 4), (8, sc_if_eq 12), (11, sc_retV), (12, sc_ldI 2), (13, sc_cst 0), (14, sc_cst 19), (16, sc_ins 44 3), (19, sc_if_eq 66), (22, sc_ldI 3), (23, sc_cst 0), (24, sc_cst 15), (26, sc_ins 44 3), (29, sc_if_eq 66), (32, sc_ldI 4), (34, sc_cst 0), (35, sc_cst 15), (37, sc_ins 44 3), (40, sc_if_eq 66), (43, sc_ldI 5), (45, sc_cst 0), (46, sc_cst 15), (48, sc_ins 44 3), (51, sc_if_eq 66), (54, sc_ldI 6), (56, sc_cst (-64)), (58, sc_cst 63), (60, sc_ins 44 3), (63, sc_if_ne 72), (66, sc_ldA 0), (67, sc_cst 2), (68, sc_putI 3 0), (71, sc_retV), (72, sc_ldA 0), (73, sc_get 3 1), (76, sc_ldI 1), (77, sc_ldI 2), (78, sc_ast), (79, sc_ldA 0), (80, sc_get 3 2), (83, sc_ldI 1), (84, sc_ldI 3), (85, sc_ast), (86, sc_ldA 0), (87, sc_get 3 3), (90, sc_ldI 1), (91, sc_ldI 4), (93, sc_ast), (94, sc_ldA 0), (95, sc_get 3 4), (98, sc_ldI 1), (99, sc_ldI 5), (101, sc_ast), (102, sc_ldA 0), (103, sc_get 3 5), (106, sc_ldI 1), (107, sc_ldI 6), (109, sc_ast), (110, sc_retV)]
noncomputable def st_X3_poke : List (Nat × sc_EN) := [(0, sc_ldA 0), (1, sc_ldI 1), (2, sc_cst 0), (3, sc_cst 31), (5, sc_inv 43 3 4), (8, sc_if_eq 13), (11, sc_cst 0), (12, sc_retI), (13, sc_ldA 0), (14, sc_get 3 6), (17, sc_ldI 1), (18, sc_ald), (19, sc_stI 3), (20, sc_ldA 0), (21, sc_get 3 6), (24, sc_ldI 1), (25, sc_ldI 2), (26, sc_ast), (27, sc_ldI 3), (28, sc_retI)]
noncomputable def st_X3_peek : List (Nat × sc_EN) := [(0, sc_ldA 0), (1, sc_ldI 1), (2, sc_cst 0), (3, sc_cst 31), (5, sc_inv 43 3 4), (8, sc_if_eq 15), (11, sc_cst 0), (12, sc_goto 21), (15, sc_ldA 0), (16, sc_get 3 6), (19, sc_ldI 1), (20, sc_ald), (21, sc_retI)]
noncomputable def st_X3_set : List (Nat × sc_EN) := [(0, sc_ldA 0), (1, sc_ldI 1), (2, sc_cst 1), (3, sc_cst 15), (5, sc_inv 43 3 4), (8, sc_if_eq 13), (11, sc_cst 0), (12, sc_retI), (13, sc_ldA 0), (14, sc_get 3 7), (17, sc_ldI 1), (18, sc_ald), (19, sc_stI 3), (20, sc_ldA 0), (21, sc_get 3 7), (24, sc_ldI 1), (25, sc_ldI 2), (26, sc_ast), (27, sc_ldI 3), (28, sc_retI)]
noncomputable def st_X3_register : List (Nat × sc_EN) := [(0, sc_ldA 0), (1, sc_ldI 1), (2, sc_cst 0), (3, sc_cst 15), (5, sc_inv 43 3 4), (8, sc_if_eq 15), (11, sc_cst 0), (12, sc_goto 21), (15, sc_ldA 0), (16, sc_get 3 7), (19, sc_ldI 1), (20, sc_ald), (21, sc_retI)]
noncomputable def st_X3_empty : List (Nat × sc_EN) := [(0, sc_cst 0), (1, sc_stI 1), (2, sc_ldI 1), (3, sc_cst 5), (4, sc_ic_ge 20), (7, sc_ldA 0), (8, sc_get 3 9), (11, sc_ldI 1), (12, sc_cst 0), (13, sc_zst), (14, sc_inc 1 1), (17, sc_goto 2), (20, sc_retV)]
noncomputable def st_X3_start : List (Nat × sc_EN) := [(0, sc_ldA 0), (1, sc_ldI 1), (2, sc_cst 0), (3, sc_cst 63), (5, sc_inv 43 3 4), (8, sc_if_eq 12), (11, sc_retV), (12, sc_ldA 0), (13, sc_inv 50 3 1), (16, sc_ldA 0), (17, sc_ldI 1), (18, sc_putI 3 21), (21, sc_ldA 0), (22, sc_cst 0), (23, sc_putZ 3 25), (26, sc_retV)]
noncomputable def st_X3_handler : List (Nat × sc_EN) := [(0, sc_ldA 0), (1, sc_ldI 1), (2, sc_cst 0), (3, sc_cst 63), (5, sc_inv 43 3 4), (8, sc_if_eq 13), (11, sc_cst 0), (12, sc_retI), (13, sc_ldA 0), (14, sc_get 3 22), (17, sc_stI 2), (18, sc_ldA 0), (19, sc_ldI 1), (20, sc_putI 3 22), (23, sc_ldI 2), (24, sc_retI)]
noncomputable def st_X3_writes : List (Nat × sc_EN) := [(0, sc_ldI 0), (1, sc_cst 0), (2, sc_cst 11), (4, sc_ins 44 3), (7, sc_if_ne 22), (10, sc_ldI 0), (11, sc_cst 15), (13, sc_ic_eq 22), (16, sc_ldI 0), (17, sc_cst 16), (19, sc_ic_ne 26), (22, sc_cst 1), (23, sc_goto 27), (26, sc_cst 0), (27, sc_retZ)]
noncomputable def st_X3_usesFirst : List (Nat × sc_EN) := [(0, sc_ldI 0), (1, sc_cst 0), (2, sc_cst 9), (4, sc_ins 44 3), (7, sc_if_ne 27), (10, sc_ldI 0), (11, sc_cst 11), (13, sc_cst 14), (15, sc_ins 44 3), (18, sc_if_ne 27), (21, sc_ldI 0), (22, sc_cst 16), (24, sc_ic_ne 31), (27, sc_cst 1), (28, sc_goto 32), (31, sc_cst 0), (32, sc_retZ)]
noncomputable def st_X3_usesSecond : List (Nat × sc_EN) := [(0, sc_ldI 0), (1, sc_cst 0), (2, sc_cst 8), (4, sc_ins 44 3), (7, sc_if_ne 21), (10, sc_ldI 0), (11, sc_cst 12), (13, sc_cst 14), (15, sc_ins 44 3), (18, sc_if_eq 25), (21, sc_cst 1), (22, sc_goto 26), (25, sc_cst 0), (26, sc_retZ)]
noncomputable def st_X3_move : List (Nat × sc_EN) := [(0, sc_ldI 1), (1, sc_cst 1), (2, sc_iadd), (3, sc_stI 2), (4, sc_ldA 0), (5, sc_get 3 9), (8, sc_ldI 2), (9, sc_cst 1), (10, sc_zst), (11, sc_ldA 0), (12, sc_get 3 9), (15, sc_ldI 1), (16, sc_cst 0), (17, sc_zst), (18, sc_ldA 0), (19, sc_get 3 10), (22, sc_ldI 2), (23, sc_ldA 0), (24, sc_get 3 10), (27, sc_ldI 1), (28, sc_ald), (29, sc_ast), (30, sc_ldA 0), (31, sc_get 3 11), (34, sc_ldI 2), (35, sc_ldA 0), (36, sc_get 3 11), (39, sc_ldI 1), (40, sc_ald), (41, sc_ast), (42, sc_ldA 0), (43, sc_get 3 12), (46, sc_ldI 2), (47, sc_ldA 0), (48, sc_get 3 12), (51, sc_ldI 1), (52, sc_ald), (53, sc_ast), (54, sc_ldA 0), (55, sc_get 3 13), (58, sc_ldI 2), (59, sc_ldA 0), (60, sc_get 3 13), (63, sc_ldI 1), (64, sc_ald), (65, sc_ast), (66, sc_ldA 0), (67, sc_get 3 14), (70, sc_ldI 2), (71, sc_ldA 0), (72, sc_get 3 14), (75, sc_ldI 1), (76, sc_ald), (77, sc_ast), (78, sc_ldA 0), (79, sc_get 3 15), (82, sc_ldI 2), (83, sc_ldA 0), (84, sc_get 3 15), (87, sc_ldI 1), (88, sc_ald), (89, sc_ast), (90, sc_ldA 0), (91, sc_get 3 16), (94, sc_ldI 2), (95, sc_ldA 0), (96, sc_get 3 16), (99, sc_ldI 1), (100, sc_ald), (101, sc_ast), (102, sc_ldA 0), (103, sc_get 3 17), (106, sc_ldI 2), (107, sc_ldA 0), (108, sc_get 3 17), (111, sc_ldI 1), (112, sc_ald), (113, sc_ast), (114, sc_ldA 0), (115, sc_get 3 18), (118, sc_ldI 2), (119, sc_ldA 0), (120, sc_get 3 18), (123, sc_ldI 1), (124, sc_ald), (125, sc_ast), (126, sc_ldA 0), (127, sc_get 3 19), (130, sc_ldI 2), (131, sc_ldA 0), (132, sc_get 3 19), (135, sc_ldI 1), (136, sc_ald), (137, sc_ast), (138, sc_retV)]
noncomputable def st_X3_leave : List (Nat × sc_EN) := [(0, sc_ldA 0), (1, sc_get 3 9), (4, sc_cst 4), (5, sc_zld), (6, sc_if_ne 11), (9, sc_cst 0), (10, sc_retZ), (11, sc_ldA 0), (12, sc_get 3 9), (15, sc_cst 4), (16, sc_cst 0), (17, sc_zst), (18, sc_ldA 0), (19, sc_get 3 19), (22, sc_cst 4), (23, sc_ald), (24, sc_if_le 71), (27, sc_ldA 0), (28, sc_dup), (29, sc_get 3 30), (32, sc_cst 1), (33, sc_iadd), (34, sc_putI 3 30), (37, sc_ldA 0), (38, sc_ldA 0), (39, sc_get 3 19), (42, sc_cst 4), (43, sc_ald), (44, sc_putI 3 23), (47, sc_ldA 0), (48, sc_ldA 0), (49, sc_get 3 10), (52, sc_cst 4), (53, sc_ald), (54, sc_putI 3 24), (57, sc_ldA 0), (58, sc_ldA 0), (59, sc_get 3 22), (62, sc_putI 3 21), (65, sc_ldA 0), (66, sc_inv 50 3 1), (69, sc_cst 1), (70, sc_retZ), (71, sc_ldA 0), (72, sc_get 3 11), (75, sc_cst 4), (76, sc_ald), (77, sc_cst 18), (79, sc_ic_ne 93), (82, sc_ldA 0), (83, sc_cst 1), (84, sc_putZ 3 25), (87, sc_ldA 0), (88, sc_inv 50 3 1), (91, sc_cst 1), (92, sc_retZ), (93, sc_ldA 0), (94, sc_get 3 11), (97, sc_cst 4), (98, sc_ald), (99, sc_ins 53 1), (102, sc_if_eq 131), (105, sc_ldA 0), (106, sc_get 3 12), (109, sc_cst 4), (110, sc_ald), (111, sc_if_eq 131), (114, sc_ldA 0), (115, sc_get 3 7), (118, sc_ldA 0), (119, sc_get 3 12), (122, sc_cst 4), (123, sc_ald), (124, sc_ldA 0), (125, sc_get 3 17), (128, sc_cst 4), (129, sc_ald), (130, sc_ast), (131, sc_ldA 0), (132, sc_dup), (133, sc_get 3 27), (136, sc_cst 1), (137, sc_iadd), (138, sc_putI 3 27), (141, sc_cst 15), (143, sc_stI 1), (144, sc_ldI 1), (145, sc_if_le 168), (148, sc_ldA 0), (149, sc_get 3 32), (152, sc_ldI 1), (153, sc_ldA 0), (154, sc_get 3 32), (157, sc_ldI 1), (158, sc_cst 1), (159, sc_isub), (160, sc_ald), (161, sc_ast), (162, sc_inc 1 (-1)), (165, sc_goto 144), (168, sc_ldA 0), (169, sc_get 3 32), (172, sc_cst 0), (173, sc_ldA 0), (174, sc_get 3 10), (177, sc_cst 4), (178, sc_ald), (179, sc_ast), (180, sc_ldA 0), (181, sc_ldA 0), (182, sc_get 3 31), (185, sc_cst 16), (187, sc_ic_ge 199), (190, sc_ldA 0), (191, sc_get 3 31), (194, sc_cst 1), (195, sc_iadd), (196, sc_goto 201), (199, sc_cst 16), (201, sc_putI 3 31), (204, sc_cst 0), (205, sc_retZ)]
noncomputable def st_X3_remember : List (Nat × sc_EN) := [(0, sc_ldA 0), (1, sc_get 3 9), (4, sc_cst 3), (5, sc_zld), (6, sc_if_ne 10), (9, sc_retV), (10, sc_ldA 0), (11, sc_cst 3), (12, sc_inv 56 3 2), (15, sc_ldA 0), (16, sc_get 3 19), (19, sc_cst 4), (20, sc_ald), (21, sc_if_ne 52), (24, sc_ldA 0), (25, sc_get 3 11), (28, sc_cst 4), (29, sc_ald), (30, sc_cst 11), (32, sc_ic_ne 52), (35, sc_ldA 0), (36, sc_get 3 17), (39, sc_cst 4), (40, sc_ldA 0), (41, sc_get 3 6), (44, sc_ldA 0), (45, sc_get 3 18), (48, sc_cst 4), (49, sc_ald), (50, sc_ald), (51, sc_ast), (52, sc_ldA 0), (53, sc_get 3 19), (56, sc_cst 4), (57, sc_ald), (58, sc_if_ne 89), (61, sc_ldA 0), (62, sc_get 3 11), (65, sc_cst 4), (66, sc_ald), (67, sc_cst 12), (69, sc_ic_ne 89), (72, sc_ldA 0), (73, sc_get 3 6), (76, sc_ldA 0), (77, sc_get 3 18), (80, sc_cst 4), (81, sc_ald), (82, sc_ldA 0), (83, sc_get 3 17), (86, sc_cst 4), (87, sc_ald), (88, sc_ast), (89, sc_retV)]
noncomputable def st_X3_read : List (Nat × sc_EN) := [(0, sc_ldA 0), (1, sc_get 3 9), (4, sc_cst 4), (5, sc_zld), (6, sc_if_eq 48), (9, sc_ldA 0), (10, sc_get 3 19), (13, sc_cst 4), (14, sc_ald), (15, sc_if_ne 48), (18, sc_ldA 0), (19, sc_get 3 11), (22, sc_cst 4), (23, sc_ald), (24, sc_ins 53 1), (27, sc_if_eq 48), (30, sc_ldA 0), (31, sc_get 3 12), (34, sc_cst 4), (35, sc_ald), (36, sc_ldI 1), (37, sc_ic_ne 48), (40, sc_ldI 1), (41, sc_if_eq 48), (44, sc_cst 1), (45, sc_goto 49), (48, sc_cst 0), (49, sc_stI 2), (50, sc_ldI 2), (51, sc_if_eq 63), (54, sc_ldA 0), (55, sc_get 3 17), (58, sc_cst 4), (59, sc_ald), (60, sc_goto 69), (63, sc_ldA 0), (64, sc_get 3 7), (67, sc_ldI 1), (68, sc_ald), (69, sc_retI)]
noncomputable def st_X3_reckon : List (Nat × sc_EN) := [(0, sc_ldI 0), (1, sc_sw [(0, 48), (1, 52), (2, 56), (3, 60), (4, 64), (5, 68), (6, 75), (7, 86)] 90), (48, sc_ldI 1), (49, sc_ldI 2), (50, sc_iadd), (51, sc_retI), (52, sc_ldI 1), (53, sc_ldI 2), (54, sc_isub), (55, sc_retI), (56, sc_ldI 1), (57, sc_ldI 2), (58, sc_iand), (59, sc_retI), (60, sc_ldI 1), (61, sc_ldI 2), (62, sc_ior), (63, sc_retI), (64, sc_ldI 1), (65, sc_ldI 2), (66, sc_ixor), (67, sc_retI), (68, sc_ldI 1), (69, sc_ldI 2), (70, sc_cst 31), (72, sc_iand), (73, sc_ishl), (74, sc_retI), (75, sc_ldI 1), (76, sc_ldI 2), (77, sc_ic_ge 84), (80, sc_cst 1), (81, sc_goto 85), (84, sc_cst 0), (85, sc_retI), (86, sc_ldI 1), (87, sc_ldI 2), (88, sc_imul), (89, sc_retI), (90, sc_ldI 2), (91, sc_if_ne 98), (94, sc_cst 0), (95, sc_goto 101), (98, sc_ldI 1), (99, sc_ldI 2), (100, sc_idiv), (101, sc_retI)]
noncomputable def st_X3_work : List (Nat × sc_EN) := [(0, sc_ldA 0), (1, sc_get 3 11), (4, sc_cst 2), (5, sc_ald), (6, sc_stI 1), (7, sc_ldA 0), (8, sc_ldA 0), (9, sc_get 3 13), (12, sc_cst 2), (13, sc_ald), (14, sc_inv 59 3 2), (17, sc_stI 2), (18, sc_ldA 0), (19, sc_ldA 0), (20, sc_get 3 14), (23, sc_cst 2), (24, sc_ald), (25, sc_inv 59 3 2), (28, sc_stI 3), (29, sc_ldA 0), (30, sc_get 3 10), (33, sc_cst 2), (34, sc_ald), (35, sc_stI 4), (37, sc_ldA 0), (38, sc_get 3 15), (41, sc_cst 2), (42, sc_ald), (43, sc_stI 5), (45, sc_ldI 4), (47, sc_cst 1), (48, sc_iadd), (49, sc_stI 6), (51, sc_cst 0), (52, sc_stI 7), (54, sc_ldI 1), (55, sc_cst 8), (57, sc_ic_gt 97), (60, sc_ldI 1), (61, sc_ldI 2), (62, sc_ldI 3), (63, sc_ins 60 3), (66, sc_stI 7), (68, sc_ldA 0), (69, sc_get 3 19), (72, sc_cst 2), (73, sc_ldI 1), (74, sc_cst 8), (76, sc_ic_ne 87), (79, sc_ldI 3), (80, sc_if_ne 87), (83, sc_cst 4), (84, sc_goto 93), (87, sc_ldA 0), (88, sc_get 3 19), (91, sc_cst 2), (92, sc_ald), (93, sc_ast), (94, sc_goto 372), (97, sc_ldI 1), (98, sc_cst 9), (100, sc_ic_eq 109), (103, sc_ldI 1), (104, sc_cst 10), (106, sc_ic_ne 129), (109, sc_ldI 1), (110, sc_cst 10), (112, sc_ic_ne 120), (115, sc_ldI 5), (117, sc_goto 124), (120, sc_ldI 2), (121, sc_ldI 5), (123, sc_iadd), (124, sc_stI 7), (126, sc_goto 372), (129, sc_ldI 1), (130, sc_cst 11), (132, sc_ic_eq 141), (135, sc_ldI 1), (136, sc_cst 12), (138, sc_ic_ne 186), (141, sc_ldA 0), (142, sc_get 3 18), (145, sc_cst 2), (146, sc_ldI 2), (147, sc_ldI 5), (149, sc_iadd), (150, sc_ast), (151, sc_ldI 3), (152, sc_stI 7), (154, sc_ldA 0), (155, sc_get 3 19), (158, sc_cst 2), (159, sc_ldI 2), (160, sc_ldI 5), (162, sc_iadd), (163, sc_cst 0), (164, sc_cst 31), (166, sc_ins 44 3), (169, sc_if_eq 181), (172, sc_ldA 0), (173, sc_get 3 19), (176, sc_cst 2), (177, sc_ald), (178, sc_goto 182), (181, sc_cst 3), (182, sc_ast), (183, sc_goto 372), (186, sc_ldI 1), (187, sc_cst 13), (189, sc_ic_eq 198), (192, sc_ldI 1), (193, sc_cst 14), (195, sc_ic_ne 318), (198, sc_ldI 2), (199, sc_ldI 3), (200, sc_ic_ne 207), (203, sc_cst 1), (204, sc_goto 208), (207, sc_cst 0), (208, sc_ldI 1), (209, sc_cst 13), (211, sc_ic_ne 218), (214, sc_cst 1), (215, sc_goto 219), (218, sc_cst 0), (219, sc_ic_ne 226), (222, sc_cst 1), (223, sc_goto 227), (226, sc_cst 0), (227, sc_stI 8), (229, sc_ldI 4), (231, sc_cst 7), (233, sc_iand), (234, sc_stI 9), (236, sc_ldA 0), (237, sc_get 3 8), (240, sc_ldI 9), (242, sc_ldI 8), (244, sc_if_eq 274), (247, sc_ldA 0), (248, sc_get 3 8), (251, sc_ldI 9), (253, sc_ald), (254, sc_cst 3), (255, sc_ic_ge 270), (258, sc_ldA 0), (259, sc_get 3 8), (262, sc_ldI 9), (264, sc_ald), (265, sc_cst 1), (266, sc_iadd), (267, sc_goto 297), (270, sc_cst 3), (271, sc_goto 297), (274, sc_ldA 0), (275, sc_get 3 8), (278, sc_ldI 9), (280, sc_ald), (281, sc_if_le 296), (284, sc_ldA 0), (285, sc_get 3 8), (288, sc_ldI 9), (290, sc_ald), (291, sc_cst 1), (292, sc_isub), (293, sc_goto 297), (296, sc_cst 0), (297, sc_ast), (298, sc_ldI 8), (300, sc_if_eq 311), (303, sc_ldI 4), (305, sc_ldI 5), (307, sc_iadd), (308, sc_goto 313), (311, sc_ldI 6), (313, sc_stI 6), (315, sc_goto 372), (318, sc_ldI 1), (319, sc_cst 15), (321, sc_ic_eq 330), (324, sc_ldI 1), (325, sc_cst 16), (327, sc_ic_ne 359), (330, sc_ldI 4), (332, sc_cst 1), (333, sc_iadd), (334, sc_stI 7), (336, sc_ldI 1), (337, sc_cst 15), (339, sc_ic_ne 350), (342, sc_ldI 4), (344, sc_ldI 5), (346, sc_iadd), (347, sc_goto 354), (350, sc_ldI 2), (351, sc_ldI 5), (353, sc_iadd), (354, sc_stI 6), (356, sc_goto 372), (359, sc_ldI 1), (360, sc_cst 17), (362, sc_ic_ne 372), (365, sc_ldA 0), (366, sc_get 3 19), (369, sc_cst 2), (370, sc_cst 2), (371, sc_ast), (372, sc_ldA 0), (373, sc_get 3 17), (376, sc_cst 2), (377, sc_ldI 7), (379, sc_ast), (380, sc_ldI 6), (382, sc_retI)]
noncomputable def st_X3_reach : List (Nat × sc_EN) := [(0, sc_ldA 0), (1, sc_get 3 9), (4, sc_cst 2), (5, sc_zld), (6, sc_if_ne 10), (9, sc_retV), (10, sc_ldA 0), (11, sc_get 3 11), (14, sc_cst 2), (15, sc_ald), (16, sc_stI 2), (17, sc_ldI 1), (18, sc_if_eq 59), (21, sc_ldI 2), (22, sc_ins 54 1), (25, sc_if_eq 38), (28, sc_ldA 0), (29, sc_get 3 13), (32, sc_cst 2), (33, sc_ald), (34, sc_ldI 1), (35, sc_ic_eq 55), (38, sc_ldI 2), (39, sc_ins 55 1), (42, sc_if_eq 59), (45, sc_ldA 0), (46, sc_get 3 14), (49, sc_cst 2), (50, sc_ald), (51, sc_ldI 1), (52, sc_ic_ne 59), (55, sc_cst 1), (56, sc_goto 60), (59, sc_cst 0), (60, sc_stI 3), (61, sc_ldI 3), (62, sc_if_eq 76), (65, sc_ldA 0), (66, sc_dup), (67, sc_get 3 28), (70, sc_cst 1), (71, sc_iadd), (72, sc_putI 3 28), (75, sc_retV), (76, sc_ldA 0), (77, sc_dup), (78, sc_get 3 20), (81, sc_cst 1), (82, sc_isub), (83, sc_putI 3 20), (86, sc_ldA 0), (87, sc_get 3 20), (90, sc_if_le 104), (93, sc_ldA 0), (94, sc_dup), (95, sc_get 3 28), (98, sc_cst 1), (99, sc_iadd), (100, sc_putI 3 28), (103, sc_retV), (104, sc_ldA 0), (105, sc_inv 61 3 1), (108, sc_stI 4), (110, sc_ldA 0), (111, sc_get 3 19), (114, sc_cst 2), (115, sc_ald), (116, sc_if_ne 160), (119, sc_ldI 4), (121, sc_ldA 0), (122, sc_get 3 16), (125, sc_cst 2), (126, sc_ald), (127, sc_ic_eq 160), (130, sc_ldA 0), (131, sc_dup), (132, sc_get 3 29), (135, sc_cst 1), (136, sc_iadd), (137, sc_putI 3 29), (140, sc_ldA 0), (141, sc_get 3 9), (144, sc_cst 0), (145, sc_cst 0), (146, sc_zst), (147, sc_ldA 0), (148, sc_get 3 9), (151, sc_cst 1), (152, sc_cst 0), (153, sc_zst), (154, sc_ldA 0), (155, sc_ldI 4), (157, sc_putI 3 21), (160, sc_ldA 0), (161, sc_cst 2), (162, sc_inv 56 3 2), (165, sc_retV)]
noncomputable def st_X3_fetch : List (Nat × sc_EN) := [(0, sc_ldA 0), (1, sc_get 3 21), (4, sc_cst 0), (5, sc_cst 63), (7, sc_ins 44 3), (10, sc_stI 1), (11, sc_ldA 0), (12, sc_get 3 9), (15, sc_cst 0), (16, sc_cst 1), (17, sc_zst), (18, sc_ldA 0), (19, sc_get 3 10), (22, sc_cst 0), (23, sc_ldA 0), (24, sc_get 3 21), (27, sc_ast), (28, sc_ldA 0), (29, sc_get 3 11), (32, sc_cst 0), (33, sc_ldI 1), (34, sc_if_eq 49), (37, sc_ldA 0), (38, sc_get 3 1), (41, sc_ldA 0), (42, sc_get 3 21), (45, sc_ald), (46, sc_goto 51), (49, sc_cst 19), (51, sc_ast), (52, sc_ldA 0), (53, sc_get 3 12), (56, sc_cst 0), (57, sc_ldI 1), (58, sc_if_eq 73), (61, sc_ldA 0), (62, sc_get 3 2), (65, sc_ldA 0), (66, sc_get 3 21), (69, sc_ald), (70, sc_goto 74), (73, sc_cst 0), (74, sc_ast), (75, sc_ldA 0), (76, sc_get 3 13), (79, sc_cst 0), (80, sc_ldI 1), (81, sc_if_eq 96), (84, sc_ldA 0), (85, sc_get 3 3), (88, sc_ldA 0), (89, sc_get 3 21), (92, sc_ald), (93, sc_goto 97), (96, sc_cst 0), (97, sc_ast), (98, sc_ldA 0), (99, sc_get 3 14), (102, sc_cst 0), (103, sc_ldI 1), (104, sc_if_eq 119), (107, sc_ldA 0), (108, sc_get 3 4), (111, sc_ldA 0), (112, sc_get 3 21), (115, sc_ald), (116, sc_goto 120), (119, sc_cst 0), (120, sc_ast), (121, sc_ldA 0), (122, sc_get 3 15), (125, sc_cst 0), (126, sc_ldI 1), (127, sc_if_eq 142), (130, sc_ldA 0), (131, sc_get 3 5), (134, sc_ldA 0), (135, sc_get 3 21), (138, sc_ald), (139, sc_goto 143), (142, sc_cst 0), (143, sc_ast), (144, sc_ldA 0), (145, sc_get 3 19), (148, sc_cst 0), (149, sc_ldI 1), (150, sc_if_eq 157), (153, sc_cst 0), (154, sc_goto 158), (157, sc_cst 1), (158, sc_ast), (159, sc_ldA 0), (160, sc_get 3 11), (163, sc_cst 0), (164, sc_ald), (165, sc_stI 2), (166, sc_ldI 2), (167, sc_cst 15), (169, sc_ic_eq 200), (172, sc_ldI 2), (173, sc_cst 13), (175, sc_ic_eq 184), (178, sc_ldI 2), (179, sc_cst 14), (181, sc_ic_ne 204), (184, sc_ldA 0), (185, sc_get 3 8), (188, sc_ldA 0), (189, sc_get 3 21), (192, sc_cst 7), (194, sc_iand), (195, sc_ald), (196, sc_cst 1), (197, sc_ic_le 204), (200, sc_cst 1), (201, sc_goto 205), (204, sc_cst 0), (205, sc_stI 3), (206, sc_ldA 0), (207, sc_ldI 3), (208, sc_if_eq 225), (211, sc_ldA 0), (212, sc_get 3 21), (215, sc_ldA 0), (216, sc_get 3 15), (219, sc_cst 0), (220, sc_ald), (221, sc_iadd), (222, sc_goto 231), (225, sc_ldA 0), (226, sc_get 3 21), (229, sc_cst 1), (230, sc_iadd), (231, sc_putI 3 21), (234, sc_ldA 0), (235, sc_get 3 16), (238, sc_cst 0), (239, sc_ldA 0), (240, sc_get 3 21), (243, sc_ast), (244, sc_retV)]
noncomputable def st_X3_cycle : List (Nat × sc_EN) := [(0, sc_ldA 0), (1, sc_dup), (2, sc_get 3 26), (5, sc_cst 1), (6, sc_iadd), (7, sc_putI 3 26), (10, sc_ldA 0), (11, sc_get 3 9), (14, sc_cst 3), (15, sc_zld), (16, sc_if_eq 48), (19, sc_ldA 0), (20, sc_get 3 11), (23, sc_cst 3), (24, sc_ald), (25, sc_cst 11), (27, sc_ic_ne 48), (30, sc_ldA 0), (31, sc_get 3 19), (34, sc_cst 3), (35, sc_ald), (36, sc_if_ne 48), (39, sc_ldA 0), (40, sc_get 3 12), (43, sc_cst 3), (44, sc_ald), (45, sc_goto 49), (48, sc_cst 0), (49, sc_stI 1), (50, sc_ldA 0), (51, sc_inv 57 3 1), (54, sc_if_eq 58), (57, sc_retV), (58, sc_ldA 0), (59, sc_inv 58 3 1), (62, sc_ldA 0), (63, sc_ldI 1), (64, sc_inv 62 3 2), (67, sc_ldA 0), (68, sc_get 3 9), (71, sc_cst 2), (72, sc_zld), (73, sc_if_ne 126), (76, sc_ldA 0), (77, sc_get 3 9), (80, sc_cst 1), (81, sc_zld), (82, sc_if_eq 126), (85, sc_ldA 0), (86, sc_cst 1), (87, sc_inv 56 3 2), (90, sc_ldA 0), (91, sc_ldA 0), (92, sc_get 3 11), (95, sc_cst 2), (96, sc_ald), (97, sc_cst 7), (99, sc_ic_ne 106), (102, sc_cst 3), (103, sc_goto 123), (106, sc_ldA 0), (107, sc_get 3 11), (110, sc_cst 2), (111, sc_ald), (112, sc_cst 8), (114, sc_ic_ne 122), (117, sc_cst 6), (119, sc_goto 123), (122, sc_cst 1), (123, sc_putI 3 20), (126, sc_ldA 0), (127, sc_get 3 9), (130, sc_cst 1), (131, sc_zld), (132, sc_if_ne 149), (135, sc_ldA 0), (136, sc_get 3 9), (139, sc_cst 0), (140, sc_zld), (141, sc_if_eq 149), (144, sc_ldA 0), (145, sc_cst 0), (146, sc_inv 56 3 2), (149, sc_ldA 0), (150, sc_get 3 9), (153, sc_cst 0), (154, sc_zld), (155, sc_if_ne 162), (158, sc_ldA 0), (159, sc_inv 63 3 1), (162, sc_retV)]
noncomputable def st_X3_cycles : List (Nat × sc_EN) := [(0, sc_ldA 0), (1, sc_ldI 1), (2, sc_cst 1), (3, sc_cst 300), (6, sc_inv 43 3 4), (9, sc_if_eq 14), (12, sc_cst 0), (13, sc_retI), (14, sc_ldA 0), (15, sc_get 3 27), (18, sc_stI 2), (19, sc_cst 0), (20, sc_stI 3), (21, sc_ldI 3), (22, sc_ldI 1), (23, sc_ic_ge 43), (26, sc_ldA 0), (27, sc_get 3 25), (30, sc_if_ne 43), (33, sc_ldA 0), (34, sc_inv 64 3 1), (37, sc_inc 3 1), (40, sc_goto 21), (43, sc_ldA 0), (44, sc_get 3 27), (47, sc_ldI 2), (48, sc_isub), (49, sc_retI)]
noncomputable def st_X3_stage : List (Nat × sc_EN) := [(0, sc_ldA 0), (1, sc_ldI 1), (2, sc_cst 0), (3, sc_cst 4), (4, sc_inv 43 3 4), (7, sc_if_eq 12), (10, sc_cst 0), (11, sc_retI), (12, sc_ldA 0), (13, sc_get 3 9), (16, sc_ldI 1), (17, sc_zld), (18, sc_if_eq 30), (21, sc_ldA 0), (22, sc_get 3 10), (25, sc_ldI 1), (26, sc_ald), (27, sc_goto 31), (30, sc_cst (-1)), (31, sc_retI)]
noncomputable def st_X3_counter : List (Nat × sc_EN) := [(0, sc_ldA 0), (1, sc_ldI 1), (2, sc_cst 0), (3, sc_cst 7), (5, sc_inv 43 3 4), (8, sc_if_eq 15), (11, sc_cst 0), (12, sc_goto 21), (15, sc_ldA 0), (16, sc_get 3 8), (19, sc_ldI 1), (20, sc_ald), (21, sc_retI)]
noncomputable def st_X3_retired : List (Nat × sc_EN) := [(0, sc_ldA 0), (1, sc_ldI 1), (2, sc_cst 0), (3, sc_ldA 0), (4, sc_get 3 31), (7, sc_cst 1), (8, sc_isub), (9, sc_inv 43 3 4), (12, sc_if_eq 19), (15, sc_cst 0), (16, sc_goto 25), (19, sc_ldA 0), (20, sc_get 3 32), (23, sc_ldI 1), (24, sc_ald), (25, sc_retI)]
noncomputable def st_X3_count : List (Nat × sc_EN) := [(0, sc_ldA 0), (1, sc_ldI 1), (2, sc_cst 0), (3, sc_cst 8), (5, sc_inv 43 3 4), (8, sc_if_eq 13), (11, sc_cst 0), (12, sc_retI), (13, sc_ldI 1), (14, sc_sw [(0, 60), (1, 65), (2, 70), (3, 75), (4, 80), (5, 85), (6, 90), (7, 95)] 100), (60, sc_ldA 0), (61, sc_get 3 26), (64, sc_retI), (65, sc_ldA 0), (66, sc_get 3 27), (69, sc_retI), (70, sc_ldA 0), (71, sc_get 3 28), (74, sc_retI), (75, sc_ldA 0), (76, sc_get 3 29), (79, sc_retI), (80, sc_ldA 0), (81, sc_get 3 30), (84, sc_retI), (85, sc_ldA 0), (86, sc_get 3 21), (89, sc_retI), (90, sc_ldA 0), (91, sc_get 3 23), (94, sc_retI), (95, sc_ldA 0), (96, sc_get 3 24), (99, sc_retI), (100, sc_ldA 0), (101, sc_get 3 25), (104, sc_if_eq 111), (107, sc_cst 1), (108, sc_goto 112), (111, sc_cst 0), (112, sc_retI)]
noncomputable def st_J9_max_7cf53 : List (Nat × sc_EN) := [(0, sc_ldI 0), (1, sc_ldI 1), (2, sc_ic_lt 9), (5, sc_ldI 0), (6, sc_goto 10), (9, sc_ldI 1), (10, sc_retI)]
noncomputable def st_J9_min_7cf53 : List (Nat × sc_EN) := [(0, sc_ldI 0), (1, sc_ldI 1), (2, sc_ic_gt 9), (5, sc_ldI 0), (6, sc_goto 10), (9, sc_ldI 1), (10, sc_retI)]
set_option maxRecDepth 100000 in
theorem kF_0_15 : Cond.fieldLink "StageChip$Flight" 15 "StageChip$Flight" "present" "Z" ∈ sc_G := sc_inG 56 (by decide +kernel) (by decide +kernel)
set_option maxRecDepth 100000 in
theorem kF_0_19 : Cond.fieldLink "StageChip$Flight" 19 "StageChip$Flight" "fault" "I" ∈ sc_G := sc_inG 63 (by decide +kernel) (by decide +kernel)
set_option maxRecDepth 100000 in
theorem kF_0_9 : Cond.fieldLink "StageChip$Flight" 9 "StageChip$Flight" "instruction" "LStageChip$Instruction;" ∈ sc_G := sc_inG 58 (by decide +kernel) (by decide +kernel)
set_option maxRecDepth 100000 in
theorem kN_0_23 : ("StageChip$Flight", 23, "StageChip$Instruction", "operation", "I", "StageChip") ∈ sc_NF := List.mem_of_getElem? (i := 0) rfl
set_option maxRecDepth 100000 in
theorem kF_1_9 : Cond.fieldLink "StageChip$Instruction" 9 "StageChip$Instruction" "operation" "I" ∈ sc_G := sc_inG 25 (by decide +kernel) (by decide +kernel)
set_option maxRecDepth 100000 in
theorem mo_1 : sc_MO 1 0 := ⟨by decide, ⟨by decide, by decide, by decide +kernel⟩, by decide, sc_inG 320 rfl rfl, sc_inG 2 (by decide +kernel) (by decide +kernel)⟩
set_option maxRecDepth 100000 in
theorem kI_1 : Cond.instanceMethod ⟨"StageChip$Instruction", "writesD", "()Z"⟩ ∈ sc_G := sc_inG 319 (by decide +kernel) (by decide +kernel)
set_option maxRecDepth 100000 in
theorem kL_1 : Cond.selects "StageChip$Instruction" ⟨"StageChip$Instruction", "writesD", "()Z"⟩ ⟨"StageChip$Instruction", "writesD", "()Z"⟩ ∈ sc_G := sc_inS 8 (by decide +kernel) (by decide +kernel)
set_option maxRecDepth 100000 in
theorem kG_0_28 : ("StageChip$Flight", 28, ⟨"StageChip$Instruction", "writesD", "()Z"⟩, "StageChip") ∈ sc_NM := List.mem_of_getElem? (i := 4) rfl
set_option maxRecDepth 100000 in
theorem kN_0_32 : ("StageChip$Flight", 32, "StageChip$Instruction", "d", "I", "StageChip") ∈ sc_NF := List.mem_of_getElem? (i := 2) rfl
set_option maxRecDepth 100000 in
theorem mo_3 : sc_MO 3 0 := ⟨by decide, ⟨by decide, by decide, by decide +kernel⟩, by decide, sc_inG 348 rfl rfl, sc_inG 2 (by decide +kernel) (by decide +kernel)⟩
set_option maxRecDepth 100000 in
theorem kI_3 : Cond.instanceMethod ⟨"StageChip$Instruction", "isBranch", "()Z"⟩ ∈ sc_G := sc_inG 347 (by decide +kernel) (by decide +kernel)
set_option maxRecDepth 100000 in
theorem kL_3 : Cond.selects "StageChip$Instruction" ⟨"StageChip$Instruction", "isBranch", "()Z"⟩ ⟨"StageChip$Instruction", "isBranch", "()Z"⟩ ∈ sc_G := sc_inS 15 (by decide +kernel) (by decide +kernel)
set_option maxRecDepth 100000 in
theorem kM_1_31 : Cond.methodLink "StageChip$Instruction" 31 ⟨"StageChip$Instruction", "isBranch", "()Z"⟩ ∈ sc_G := sc_inG 345 (by decide +kernel) (by decide +kernel)
set_option maxRecDepth 100000 in
theorem mo_4 : sc_MO 4 0 := ⟨by decide, ⟨by decide, by decide, by decide +kernel⟩, by decide, sc_inG 344 rfl rfl, sc_inG 2 (by decide +kernel) (by decide +kernel)⟩
set_option maxRecDepth 100000 in
theorem kI_4 : Cond.instanceMethod ⟨"StageChip$Instruction", "usesT", "()Z"⟩ ∈ sc_G := sc_inG 343 (by decide +kernel) (by decide +kernel)
set_option maxRecDepth 100000 in
theorem kL_4 : Cond.selects "StageChip$Instruction" ⟨"StageChip$Instruction", "usesT", "()Z"⟩ ⟨"StageChip$Instruction", "usesT", "()Z"⟩ ∈ sc_G := sc_inS 14 (by decide +kernel) (by decide +kernel)
set_option maxRecDepth 100000 in
theorem kM_1_27 : Cond.methodLink "StageChip$Instruction" 27 ⟨"StageChip$Instruction", "usesT", "()Z"⟩ ∈ sc_G := sc_inG 341 (by decide +kernel) (by decide +kernel)
set_option maxRecDepth 100000 in
theorem mo_8 : sc_MO 8 2 := ⟨by decide, ⟨by decide, by decide, by decide +kernel⟩, by decide, sc_inG 152 rfl rfl, sc_inG 1 (by decide +kernel) (by decide +kernel)⟩
set_option maxRecDepth 100000 in
theorem kM_2_44 : Cond.methodLink "StageChip" 44 ⟨"StageChip", "checkIndex", "(II)V"⟩ ∈ sc_G := sc_inG 150 (by decide +kernel) (by decide +kernel)
set_option maxRecDepth 100000 in
theorem kS_8 : Cond.static ⟨"StageChip", "checkIndex", "(II)V"⟩ ∈ sc_G := sc_inG 151 (by decide +kernel) (by decide +kernel)
set_option maxRecDepth 100000 in
theorem kF_2_22 : Cond.fieldLink "StageChip" 22 "StageChip" "data" "[I" ∈ sc_G := sc_inG 87 (by decide +kernel) (by decide +kernel)
set_option maxRecDepth 100000 in
theorem kF_2_26 : Cond.fieldLink "StageChip" 26 "StageChip" "registers" "[I" ∈ sc_G := sc_inG 88 (by decide +kernel) (by decide +kernel)
set_option maxRecDepth 100000 in
theorem kF_2_34 : Cond.fieldLink "StageChip" 34 "StageChip" "stages" "[LStageChip$Flight;" ∈ sc_G := sc_inG 90 (by decide +kernel) (by decide +kernel)
set_option maxRecDepth 100000 in
theorem kN_2_80 : ("StageChip", 80, "StageChip$Flight", "present", "Z", "StageChip") ∈ sc_NF := List.mem_of_getElem? (i := 7) rfl
set_option maxRecDepth 100000 in
theorem mo_14 : sc_MO 14 1 := ⟨by decide, ⟨by decide, by decide, by decide +kernel⟩, by decide, sc_inG 278 rfl rfl, sc_inG 1 (by decide +kernel) (by decide +kernel)⟩
set_option maxRecDepth 100000 in
theorem kI_14 : Cond.instanceMethod ⟨"StageChip", "emptyStagesBelow", "(I)V"⟩ ∈ sc_G := sc_inG 277 (by decide +kernel) (by decide +kernel)
set_option maxRecDepth 100000 in
theorem kL_14 : Cond.selects "StageChip" ⟨"StageChip", "emptyStagesBelow", "(I)V"⟩ ⟨"StageChip", "emptyStagesBelow", "(I)V"⟩ ∈ sc_G := sc_inS 1 (by decide +kernel) (by decide +kernel)
set_option maxRecDepth 100000 in
theorem kM_2_59 : Cond.methodLink "StageChip" 59 ⟨"StageChip", "emptyStagesBelow", "(I)V"⟩ ∈ sc_G := sc_inG 275 (by decide +kernel) (by decide +kernel)
set_option maxRecDepth 100000 in
theorem kF_2_63 : Cond.fieldLink "StageChip" 63 "StageChip" "where" "I" ∈ sc_G := sc_inG 92 (by decide +kernel) (by decide +kernel)
set_option maxRecDepth 100000 in
theorem kF_2_67 : Cond.fieldLink "StageChip" 67 "StageChip" "halted" "Z" ∈ sc_G := sc_inG 96 (by decide +kernel) (by decide +kernel)
set_option maxRecDepth 100000 in
theorem kF_2_71 : Cond.fieldLink "StageChip" 71 "StageChip" "handlerPlace" "I" ∈ sc_G := sc_inG 93 (by decide +kernel) (by decide +kernel)
set_option maxRecDepth 100000 in
theorem kF_2_101 : Cond.fieldLink "StageChip" 101 "StageChip" "faultCount" "I" ∈ sc_G := sc_inG 101 (by decide +kernel) (by decide +kernel)
set_option maxRecDepth 100000 in
theorem kN_2_136 : ("StageChip", 136, "StageChip$Flight", "fault", "I", "StageChip") ∈ sc_NF := List.mem_of_getElem? (i := 12) rfl
set_option maxRecDepth 100000 in
theorem kF_2_104 : Cond.fieldLink "StageChip" 104 "StageChip" "cause" "I" ∈ sc_G := sc_inG 94 (by decide +kernel) (by decide +kernel)
set_option maxRecDepth 100000 in
theorem kN_2_83 : ("StageChip", 83, "StageChip$Flight", "place", "I", "StageChip") ∈ sc_NF := List.mem_of_getElem? (i := 9) rfl
set_option maxRecDepth 100000 in
theorem kF_2_107 : Cond.fieldLink "StageChip" 107 "StageChip" "returnPlace" "I" ∈ sc_G := sc_inG 95 (by decide +kernel) (by decide +kernel)
set_option maxRecDepth 100000 in
theorem kN_2_149 : ("StageChip", 149, "StageChip$Flight", "instruction", "LStageChip$Instruction;", "StageChip") ∈ sc_NF := List.mem_of_getElem? (i := 8) rfl
set_option maxRecDepth 100000 in
theorem kN_2_152 : ("StageChip", 152, "StageChip$Instruction", "d", "I", "StageChip") ∈ sc_NF := List.mem_of_getElem? (i := 3) rfl
set_option maxRecDepth 100000 in
theorem mo_2 : sc_MO 2 1 := ⟨by decide, ⟨by decide, by decide, by decide +kernel⟩, by decide, sc_inG 316 rfl rfl, sc_inG 3 (by decide +kernel) (by decide +kernel)⟩
set_option maxRecDepth 100000 in
theorem kI_2 : Cond.instanceMethod ⟨"StageChip$Flight", "writes", "(I)Z"⟩ ∈ sc_G := sc_inG 315 (by decide +kernel) (by decide +kernel)
set_option maxRecDepth 100000 in
theorem kL_2 : Cond.selects "StageChip$Flight" ⟨"StageChip$Flight", "writes", "(I)Z"⟩ ⟨"StageChip$Flight", "writes", "(I)Z"⟩ ∈ sc_G := sc_inS 7 (by decide +kernel) (by decide +kernel)
set_option maxRecDepth 100000 in
theorem kG_2_155 : ("StageChip", 155, ⟨"StageChip$Flight", "writes", "(I)Z"⟩, "StageChip") ∈ sc_NM := List.mem_of_getElem? (i := 3) rfl
set_option maxRecDepth 100000 in
theorem kN_2_158 : ("StageChip", 158, "StageChip$Flight", "value", "I", "StageChip") ∈ sc_NF := List.mem_of_getElem? (i := 14) rfl
set_option maxRecDepth 100000 in
theorem kF_2_41 : Cond.fieldLink "StageChip" 41 "StageChip" "lastRetired" "[I" ∈ sc_G := sc_inG 91 (by decide +kernel) (by decide +kernel)
set_option maxRecDepth 100000 in
theorem kF_2_74 : Cond.fieldLink "StageChip" 74 "StageChip" "retiredCount" "I" ∈ sc_G := sc_inG 98 (by decide +kernel) (by decide +kernel)
set_option maxRecDepth 100000 in
theorem mo_17 : sc_MO 17 1 := ⟨by decide, ⟨by decide, by decide, by decide +kernel⟩, by decide, sc_inG 304 rfl rfl, sc_inG 1 (by decide +kernel) (by decide +kernel)⟩
set_option maxRecDepth 100000 in
theorem kI_17 : Cond.instanceMethod ⟨"StageChip", "takeFault", "(LStageChip$Flight;)V"⟩ ∈ sc_G := sc_inG 303 (by decide +kernel) (by decide +kernel)
set_option maxRecDepth 100000 in
theorem kL_17 : Cond.selects "StageChip" ⟨"StageChip", "takeFault", "(LStageChip$Flight;)V"⟩ ⟨"StageChip", "takeFault", "(LStageChip$Flight;)V"⟩ ∈ sc_G := sc_inS 4 (by decide +kernel) (by decide +kernel)
set_option maxRecDepth 100000 in
theorem kM_2_139 : Cond.methodLink "StageChip" 139 ⟨"StageChip", "takeFault", "(LStageChip$Flight;)V"⟩ ∈ sc_G := sc_inG 301 (by decide +kernel) (by decide +kernel)
set_option maxRecDepth 100000 in
theorem mo_0 : sc_MO 0 1 := ⟨by decide, ⟨by decide, by decide, by decide +kernel⟩, by decide, sc_inG 308 rfl rfl, sc_inG 3 (by decide +kernel) (by decide +kernel)⟩
set_option maxRecDepth 100000 in
theorem kI_0 : Cond.instanceMethod ⟨"StageChip$Flight", "does", "(I)Z"⟩ ∈ sc_G := sc_inG 307 (by decide +kernel) (by decide +kernel)
set_option maxRecDepth 100000 in
theorem kL_0 : Cond.selects "StageChip$Flight" ⟨"StageChip$Flight", "does", "(I)Z"⟩ ⟨"StageChip$Flight", "does", "(I)Z"⟩ ∈ sc_G := sc_inS 5 (by decide +kernel) (by decide +kernel)
set_option maxRecDepth 100000 in
theorem kG_2_142 : ("StageChip", 142, ⟨"StageChip$Flight", "does", "(I)Z"⟩, "StageChip") ∈ sc_NM := List.mem_of_getElem? (i := 2) rfl
set_option maxRecDepth 100000 in
theorem mo_18 : sc_MO 18 1 := ⟨by decide, ⟨by decide, by decide, by decide +kernel⟩, by decide, sc_inG 312 rfl rfl, sc_inG 1 (by decide +kernel) (by decide +kernel)⟩
set_option maxRecDepth 100000 in
theorem kI_18 : Cond.instanceMethod ⟨"StageChip", "retire", "(LStageChip$Flight;)V"⟩ ∈ sc_G := sc_inG 311 (by decide +kernel) (by decide +kernel)
set_option maxRecDepth 100000 in
theorem kL_18 : Cond.selects "StageChip" ⟨"StageChip", "retire", "(LStageChip$Flight;)V"⟩ ⟨"StageChip", "retire", "(LStageChip$Flight;)V"⟩ ∈ sc_G := sc_inS 6 (by decide +kernel) (by decide +kernel)
set_option maxRecDepth 100000 in
theorem kM_2_146 : Cond.methodLink "StageChip" 146 ⟨"StageChip", "retire", "(LStageChip$Flight;)V"⟩ ∈ sc_G := sc_inG 309 (by decide +kernel) (by decide +kernel)
set_option maxRecDepth 100000 in
theorem kN_2_161 : ("StageChip", 161, "StageChip$Flight", "address", "I", "StageChip") ∈ sc_NF := List.mem_of_getElem? (i := 13) rfl
set_option maxRecDepth 100000 in
theorem mo_20 : sc_MO 20 1 := ⟨by decide, ⟨by decide, by decide, by decide +kernel⟩, by decide, sc_inG 328 rfl rfl, sc_inG 1 (by decide +kernel) (by decide +kernel)⟩
set_option maxRecDepth 100000 in
theorem kI_20 : Cond.instanceMethod ⟨"StageChip", "moveOnIfFree", "(I)V"⟩ ∈ sc_G := sc_inG 327 (by decide +kernel) (by decide +kernel)
set_option maxRecDepth 100000 in
theorem kL_20 : Cond.selects "StageChip" ⟨"StageChip", "moveOnIfFree", "(I)V"⟩ ⟨"StageChip", "moveOnIfFree", "(I)V"⟩ ∈ sc_G := sc_inS 10 (by decide +kernel) (by decide +kernel)
set_option maxRecDepth 100000 in
theorem kM_2_130 : Cond.methodLink "StageChip" 130 ⟨"StageChip", "moveOnIfFree", "(I)V"⟩ ∈ sc_G := sc_inG 325 (by decide +kernel) (by decide +kernel)
set_option maxRecDepth 100000 in
theorem mo_5 : sc_MO 5 0 := ⟨by decide, ⟨by decide, by decide, by decide +kernel⟩, by decide, sc_inG 340 rfl rfl, sc_inG 2 (by decide +kernel) (by decide +kernel)⟩
set_option maxRecDepth 100000 in
theorem kI_5 : Cond.instanceMethod ⟨"StageChip$Instruction", "usesS", "()Z"⟩ ∈ sc_G := sc_inG 339 (by decide +kernel) (by decide +kernel)
set_option maxRecDepth 100000 in
theorem kL_5 : Cond.selects "StageChip$Instruction" ⟨"StageChip$Instruction", "usesS", "()Z"⟩ ⟨"StageChip$Instruction", "usesS", "()Z"⟩ ∈ sc_G := sc_inS 13 (by decide +kernel) (by decide +kernel)
set_option maxRecDepth 100000 in
theorem kG_2_178 : ("StageChip", 178, ⟨"StageChip$Instruction", "usesS", "()Z"⟩, "StageChip") ∈ sc_NM := List.mem_of_getElem? (i := 5) rfl
set_option maxRecDepth 100000 in
theorem kN_2_182 : ("StageChip", 182, "StageChip$Instruction", "s", "I", "StageChip") ∈ sc_NF := List.mem_of_getElem? (i := 4) rfl
set_option maxRecDepth 100000 in
theorem kG_2_185 : ("StageChip", 185, ⟨"StageChip$Instruction", "usesT", "()Z"⟩, "StageChip") ∈ sc_NM := List.mem_of_getElem? (i := 6) rfl
set_option maxRecDepth 100000 in
theorem kN_2_188 : ("StageChip", 188, "StageChip$Instruction", "t", "I", "StageChip") ∈ sc_NF := List.mem_of_getElem? (i := 5) rfl
set_option maxRecDepth 100000 in
theorem kN_2_209 : ("StageChip", 209, "StageChip$Instruction", "operation", "I", "StageChip") ∈ sc_NF := List.mem_of_getElem? (i := 1) rfl
set_option maxRecDepth 100000 in
theorem mo_6 : sc_MO 6 0 := ⟨by decide, ⟨by decide, by decide, by decide +kernel⟩, by decide, sc_inG 368 rfl rfl, sc_inG 2 (by decide +kernel) (by decide +kernel)⟩
set_option maxRecDepth 100000 in
theorem kI_6 : Cond.instanceMethod ⟨"StageChip$Instruction", "touchesData", "()Z"⟩ ∈ sc_G := sc_inG 367 (by decide +kernel) (by decide +kernel)
set_option maxRecDepth 100000 in
theorem kL_6 : Cond.selects "StageChip$Instruction" ⟨"StageChip$Instruction", "touchesData", "()Z"⟩ ⟨"StageChip$Instruction", "touchesData", "()Z"⟩ ∈ sc_G := sc_inS 19 (by decide +kernel) (by decide +kernel)
set_option maxRecDepth 100000 in
theorem kG_2_203 : ("StageChip", 203, ⟨"StageChip$Instruction", "touchesData", "()Z"⟩, "StageChip") ∈ sc_NM := List.mem_of_getElem? (i := 8) rfl
set_option maxRecDepth 100000 in
theorem kN_2_206 : ("StageChip", 206, "StageChip$Instruction", "n", "I", "StageChip") ∈ sc_NF := List.mem_of_getElem? (i := 6) rfl
set_option maxRecDepth 100000 in
theorem mo_24 : sc_MO 24 1 := ⟨by decide, ⟨by decide, by decide, by decide +kernel⟩, by decide, sc_inG 371 rfl rfl, sc_inG 1 (by decide +kernel) (by decide +kernel)⟩
set_option maxRecDepth 100000 in
theorem kM_2_231 : Cond.methodLink "StageChip" 231 ⟨"StageChip", "isWord", "(I)Z"⟩ ∈ sc_G := sc_inG 369 (by decide +kernel) (by decide +kernel)
set_option maxRecDepth 100000 in
theorem kS_24 : Cond.static ⟨"StageChip", "isWord", "(I)Z"⟩ ∈ sc_G := sc_inG 370 (by decide +kernel) (by decide +kernel)
set_option maxRecDepth 100000 in
theorem mo_28 : sc_MO 28 2 := ⟨by decide, ⟨by decide, by decide, by decide +kernel⟩, by decide, sc_inG 385 rfl rfl, sc_inG 10 (by decide +kernel) (by decide +kernel)⟩
set_option maxRecDepth 100000 in
theorem kM_2_234 : Cond.methodLink "StageChip" 234 ⟨"java/lang/Math", "floorMod", "(II)I"⟩ ∈ sc_G := sc_inG 383 (by decide +kernel) (by decide +kernel)
set_option maxRecDepth 100000 in
theorem kS_28 : Cond.static ⟨"java/lang/Math", "floorMod", "(II)I"⟩ ∈ sc_G := sc_inG 384 (by decide +kernel) (by decide +kernel)
set_option maxRecDepth 100000 in
theorem kF_2_29 : Cond.fieldLink "StageChip" 29 "StageChip" "counters" "[I" ∈ sc_G := sc_inG 89 (by decide +kernel) (by decide +kernel)
set_option maxRecDepth 100000 in
theorem mo_71 : sc_MO 71 2 := ⟨by decide, ⟨by decide, by decide, by decide +kernel⟩, by decide, sc_inG 388 rfl rfl, sc_inG 10 (by decide +kernel) (by decide +kernel)⟩
set_option maxRecDepth 100000 in
theorem kM_2_86 : Cond.methodLink "StageChip" 86 ⟨"java/lang/Math", "min", "(II)I"⟩ ∈ sc_G := sc_inG 386 (by decide +kernel) (by decide +kernel)
set_option maxRecDepth 100000 in
theorem kS_71 : Cond.static ⟨"java/lang/Math", "min", "(II)I"⟩ ∈ sc_G := sc_inG 387 (by decide +kernel) (by decide +kernel)
set_option maxRecDepth 100000 in
theorem mo_70 : sc_MO 70 2 := ⟨by decide, ⟨by decide, by decide, by decide +kernel⟩, by decide, sc_inG 391 rfl rfl, sc_inG 10 (by decide +kernel) (by decide +kernel)⟩
set_option maxRecDepth 100000 in
theorem kM_2_237 : Cond.methodLink "StageChip" 237 ⟨"java/lang/Math", "max", "(II)I"⟩ ∈ sc_G := sc_inG 389 (by decide +kernel) (by decide +kernel)
set_option maxRecDepth 100000 in
theorem kS_70 : Cond.static ⟨"java/lang/Math", "max", "(II)I"⟩ ∈ sc_G := sc_inG 390 (by decide +kernel) (by decide +kernel)
set_option maxRecDepth 100000 in
theorem kN_2_240 : ("StageChip", 240, "StageChip$Flight", "guess", "I", "StageChip") ∈ sc_NF := List.mem_of_getElem? (i := 10) rfl
set_option maxRecDepth 100000 in
theorem kF_2_98 : Cond.fieldLink "StageChip" 98 "StageChip" "wrongGuessCount" "I" ∈ sc_G := sc_inG 100 (by decide +kernel) (by decide +kernel)
set_option maxRecDepth 100000 in
theorem mo_23 : sc_MO 23 1 := ⟨by decide, ⟨by decide, by decide, by decide +kernel⟩, by decide, sc_inG 361 rfl rfl, sc_inG 1 (by decide +kernel) (by decide +kernel)⟩
set_option maxRecDepth 100000 in
theorem kI_23 : Cond.instanceMethod ⟨"StageChip", "handedOn", "(I)I"⟩ ∈ sc_G := sc_inG 360 (by decide +kernel) (by decide +kernel)
set_option maxRecDepth 100000 in
theorem kL_23 : Cond.selects "StageChip" ⟨"StageChip", "handedOn", "(I)I"⟩ ⟨"StageChip", "handedOn", "(I)I"⟩ ∈ sc_G := sc_inS 18 (by decide +kernel) (by decide +kernel)
set_option maxRecDepth 100000 in
theorem kM_2_191 : Cond.methodLink "StageChip" 191 ⟨"StageChip", "handedOn", "(I)I"⟩ ∈ sc_G := sc_inG 358 (by decide +kernel) (by decide +kernel)
set_option maxRecDepth 100000 in
theorem mo_25 : sc_MO 25 3 := ⟨by decide, ⟨by decide, by decide, by decide +kernel⟩, by decide, sc_inG 364 rfl rfl, sc_inG 1 (by decide +kernel) (by decide +kernel)⟩
set_option maxRecDepth 100000 in
theorem kM_2_195 : Cond.methodLink "StageChip" 195 ⟨"StageChip", "faultOf", "(LStageChip$Instruction;II)I"⟩ ∈ sc_G := sc_inG 362 (by decide +kernel) (by decide +kernel)
set_option maxRecDepth 100000 in
theorem kS_25 : Cond.static ⟨"StageChip", "faultOf", "(LStageChip$Instruction;II)I"⟩ ∈ sc_G := sc_inG 363 (by decide +kernel) (by decide +kernel)
set_option maxRecDepth 100000 in
theorem mo_26 : sc_MO 26 3 := ⟨by decide, ⟨by decide, by decide, by decide +kernel⟩, by decide, sc_inG 374 rfl rfl, sc_inG 1 (by decide +kernel) (by decide +kernel)⟩
set_option maxRecDepth 100000 in
theorem kM_2_199 : Cond.methodLink "StageChip" 199 ⟨"StageChip", "valueOf", "(LStageChip$Flight;II)I"⟩ ∈ sc_G := sc_inG 372 (by decide +kernel) (by decide +kernel)
set_option maxRecDepth 100000 in
theorem kS_26 : Cond.static ⟨"StageChip", "valueOf", "(LStageChip$Flight;II)I"⟩ ∈ sc_G := sc_inG 373 (by decide +kernel) (by decide +kernel)
set_option maxRecDepth 100000 in
theorem mo_27 : sc_MO 27 3 := ⟨by decide, ⟨by decide, by decide, by decide +kernel⟩, by decide, sc_inG 377 rfl rfl, sc_inG 1 (by decide +kernel) (by decide +kernel)⟩
set_option maxRecDepth 100000 in
theorem kM_2_212 : Cond.methodLink "StageChip" 212 ⟨"StageChip", "goesElsewhere", "(III)Z"⟩ ∈ sc_G := sc_inG 375 (by decide +kernel) (by decide +kernel)
set_option maxRecDepth 100000 in
theorem kS_27 : Cond.static ⟨"StageChip", "goesElsewhere", "(III)Z"⟩ ∈ sc_G := sc_inG 376 (by decide +kernel) (by decide +kernel)
set_option maxRecDepth 100000 in
theorem kG_2_216 : ("StageChip", 216, ⟨"StageChip$Instruction", "isBranch", "()Z"⟩, "StageChip") ∈ sc_NM := List.mem_of_getElem? (i := 9) rfl
set_option maxRecDepth 100000 in
theorem mo_29 : sc_MO 29 2 := ⟨by decide, ⟨by decide, by decide, by decide +kernel⟩, by decide, sc_inG 382 rfl rfl, sc_inG 1 (by decide +kernel) (by decide +kernel)⟩
set_option maxRecDepth 100000 in
theorem kI_29 : Cond.instanceMethod ⟨"StageChip", "learn", "(IZ)V"⟩ ∈ sc_G := sc_inG 381 (by decide +kernel) (by decide +kernel)
set_option maxRecDepth 100000 in
theorem kL_29 : Cond.selects "StageChip" ⟨"StageChip", "learn", "(IZ)V"⟩ ⟨"StageChip", "learn", "(IZ)V"⟩ ∈ sc_G := sc_inS 20 (by decide +kernel) (by decide +kernel)
set_option maxRecDepth 100000 in
theorem kM_2_219 : Cond.methodLink "StageChip" 219 ⟨"StageChip", "learn", "(IZ)V"⟩ ∈ sc_G := sc_inG 379 (by decide +kernel) (by decide +kernel)
set_option maxRecDepth 100000 in
theorem mo_30 : sc_MO 30 2 := ⟨by decide, ⟨by decide, by decide, by decide +kernel⟩, by decide, sc_inG 394 rfl rfl, sc_inG 1 (by decide +kernel) (by decide +kernel)⟩
set_option maxRecDepth 100000 in
theorem kM_2_223 : Cond.methodLink "StageChip" 223 ⟨"StageChip", "target", "(LStageChip$Flight;I)I"⟩ ∈ sc_G := sc_inG 392 (by decide +kernel) (by decide +kernel)
set_option maxRecDepth 100000 in
theorem kS_30 : Cond.static ⟨"StageChip", "target", "(LStageChip$Flight;I)I"⟩ ∈ sc_G := sc_inG 393 (by decide +kernel) (by decide +kernel)
set_option maxRecDepth 100000 in
theorem mo_31 : sc_MO 31 2 := ⟨by decide, ⟨by decide, by decide, by decide +kernel⟩, by decide, sc_inG 398 rfl rfl, sc_inG 1 (by decide +kernel) (by decide +kernel)⟩
set_option maxRecDepth 100000 in
theorem kI_31 : Cond.instanceMethod ⟨"StageChip", "holdAgainstGuess", "(LStageChip$Flight;I)V"⟩ ∈ sc_G := sc_inG 397 (by decide +kernel) (by decide +kernel)
set_option maxRecDepth 100000 in
theorem kL_31 : Cond.selects "StageChip" ⟨"StageChip", "holdAgainstGuess", "(LStageChip$Flight;I)V"⟩ ⟨"StageChip", "holdAgainstGuess", "(LStageChip$Flight;I)V"⟩ ∈ sc_G := sc_inS 21 (by decide +kernel) (by decide +kernel)
set_option maxRecDepth 100000 in
theorem kM_2_227 : Cond.methodLink "StageChip" 227 ⟨"StageChip", "holdAgainstGuess", "(LStageChip$Flight;I)V"⟩ ∈ sc_G := sc_inG 395 (by decide +kernel) (by decide +kernel)
set_option maxRecDepth 100000 in
theorem mo_22 : sc_MO 22 1 := ⟨by decide, ⟨by decide, by decide, by decide +kernel⟩, by decide, sc_inG 336 rfl rfl, sc_inG 1 (by decide +kernel) (by decide +kernel)⟩
set_option maxRecDepth 100000 in
theorem kI_22 : Cond.instanceMethod ⟨"StageChip", "needsLoadAhead", "(LStageChip$Instruction;)Z"⟩ ∈ sc_G := sc_inG 335 (by decide +kernel) (by decide +kernel)
set_option maxRecDepth 100000 in
theorem kL_22 : Cond.selects "StageChip" ⟨"StageChip", "needsLoadAhead", "(LStageChip$Instruction;)Z"⟩ ⟨"StageChip", "needsLoadAhead", "(LStageChip$Instruction;)Z"⟩ ∈ sc_G := sc_inS 12 (by decide +kernel) (by decide +kernel)
set_option maxRecDepth 100000 in
theorem kM_2_164 : Cond.methodLink "StageChip" 164 ⟨"StageChip", "needsLoadAhead", "(LStageChip$Instruction;)Z"⟩ ∈ sc_G := sc_inG 333 (by decide +kernel) (by decide +kernel)
set_option maxRecDepth 100000 in
theorem kF_2_95 : Cond.fieldLink "StageChip" 95 "StageChip" "waitCount" "I" ∈ sc_G := sc_inG 99 (by decide +kernel) (by decide +kernel)
set_option maxRecDepth 100000 in
theorem kN_2_168 : ("StageChip", 168, "StageChip$Flight", "worked", "I", "StageChip") ∈ sc_NF := List.mem_of_getElem? (i := 11) rfl
set_option maxRecDepth 100000 in
theorem mo_7 : sc_MO 7 0 := ⟨by decide, ⟨by decide, by decide, by decide +kernel⟩, by decide, sc_inG 353 rfl rfl, sc_inG 2 (by decide +kernel) (by decide +kernel)⟩
set_option maxRecDepth 100000 in
theorem kI_7 : Cond.instanceMethod ⟨"StageChip$Instruction", "workCycles", "()I"⟩ ∈ sc_G := sc_inG 352 (by decide +kernel) (by decide +kernel)
set_option maxRecDepth 100000 in
theorem kL_7 : Cond.selects "StageChip$Instruction" ⟨"StageChip$Instruction", "workCycles", "()I"⟩ ⟨"StageChip$Instruction", "workCycles", "()I"⟩ ∈ sc_G := sc_inS 16 (by decide +kernel) (by decide +kernel)
set_option maxRecDepth 100000 in
theorem kG_2_171 : ("StageChip", 171, ⟨"StageChip$Instruction", "workCycles", "()I"⟩, "StageChip") ∈ sc_NM := List.mem_of_getElem? (i := 7) rfl
set_option maxRecDepth 100000 in
theorem mo_32 : sc_MO 32 1 := ⟨by decide, ⟨by decide, by decide, by decide +kernel⟩, by decide, sc_inG 357 rfl rfl, sc_inG 1 (by decide +kernel) (by decide +kernel)⟩
set_option maxRecDepth 100000 in
theorem kI_32 : Cond.instanceMethod ⟨"StageChip", "finishWork", "(LStageChip$Flight;)V"⟩ ∈ sc_G := sc_inG 356 (by decide +kernel) (by decide +kernel)
set_option maxRecDepth 100000 in
theorem kL_32 : Cond.selects "StageChip" ⟨"StageChip", "finishWork", "(LStageChip$Flight;)V"⟩ ⟨"StageChip", "finishWork", "(LStageChip$Flight;)V"⟩ ∈ sc_G := sc_inS 17 (by decide +kernel) (by decide +kernel)
set_option maxRecDepth 100000 in
theorem kM_2_175 : Cond.methodLink "StageChip" 175 ⟨"StageChip", "finishWork", "(LStageChip$Flight;)V"⟩ ∈ sc_G := sc_inG 354 (by decide +kernel) (by decide +kernel)
set_option maxRecDepth 100000 in
theorem kF_2_18 : Cond.fieldLink "StageChip" 18 "StageChip" "program" "[LStageChip$Instruction;" ∈ sc_G := sc_inG 86 (by decide +kernel) (by decide +kernel)
set_option maxRecDepth 100000 in
theorem kF_2_14 : Cond.fieldLink "StageChip" 14 "StageChip" "nop" "LStageChip$Instruction;" ∈ sc_G := sc_inG 85 (by decide +kernel) (by decide +kernel)
set_option maxRecDepth 100000 in
theorem mo_34 : sc_MO 34 2 := ⟨by decide, ⟨by decide, by decide, by decide +kernel⟩, by decide, sc_inG 406 rfl rfl, sc_inG 1 (by decide +kernel) (by decide +kernel)⟩
set_option maxRecDepth 100000 in
theorem kI_34 : Cond.instanceMethod ⟨"StageChip", "guessNext", "(LStageChip$Instruction;I)I"⟩ ∈ sc_G := sc_inG 405 (by decide +kernel) (by decide +kernel)
set_option maxRecDepth 100000 in
theorem kL_34 : Cond.selects "StageChip" ⟨"StageChip", "guessNext", "(LStageChip$Instruction;I)I"⟩ ⟨"StageChip", "guessNext", "(LStageChip$Instruction;I)I"⟩ ∈ sc_G := sc_inS 23 (by decide +kernel) (by decide +kernel)
set_option maxRecDepth 100000 in
theorem kM_2_243 : Cond.methodLink "StageChip" 243 ⟨"StageChip", "guessNext", "(LStageChip$Instruction;I)I"⟩ ∈ sc_G := sc_inG 403 (by decide +kernel) (by decide +kernel)
set_option maxRecDepth 100000 in
theorem kF_2_92 : Cond.fieldLink "StageChip" 92 "StageChip" "cycleCount" "I" ∈ sc_G := sc_inG 97 (by decide +kernel) (by decide +kernel)
set_option maxRecDepth 100000 in
theorem mo_19 : sc_MO 19 1 := ⟨by decide, ⟨by decide, by decide, by decide +kernel⟩, by decide, sc_inG 300 rfl rfl, sc_inG 1 (by decide +kernel) (by decide +kernel)⟩
set_option maxRecDepth 100000 in
theorem kI_19 : Cond.instanceMethod ⟨"StageChip", "leaveEndsCycle", "(LStageChip$Flight;)Z"⟩ ∈ sc_G := sc_inG 299 (by decide +kernel) (by decide +kernel)
set_option maxRecDepth 100000 in
theorem kL_19 : Cond.selects "StageChip" ⟨"StageChip", "leaveEndsCycle", "(LStageChip$Flight;)Z"⟩ ⟨"StageChip", "leaveEndsCycle", "(LStageChip$Flight;)Z"⟩ ∈ sc_G := sc_inS 3 (by decide +kernel) (by decide +kernel)
set_option maxRecDepth 100000 in
theorem kM_2_119 : Cond.methodLink "StageChip" 119 ⟨"StageChip", "leaveEndsCycle", "(LStageChip$Flight;)Z"⟩ ∈ sc_G := sc_inG 297 (by decide +kernel) (by decide +kernel)
set_option maxRecDepth 100000 in
theorem mo_21 : sc_MO 21 1 := ⟨by decide, ⟨by decide, by decide, by decide +kernel⟩, by decide, sc_inG 324 rfl rfl, sc_inG 1 (by decide +kernel) (by decide +kernel)⟩
set_option maxRecDepth 100000 in
theorem kI_21 : Cond.instanceMethod ⟨"StageChip", "passMemory", "(LStageChip$Flight;)V"⟩ ∈ sc_G := sc_inG 323 (by decide +kernel) (by decide +kernel)
set_option maxRecDepth 100000 in
theorem kL_21 : Cond.selects "StageChip" ⟨"StageChip", "passMemory", "(LStageChip$Flight;)V"⟩ ⟨"StageChip", "passMemory", "(LStageChip$Flight;)V"⟩ ∈ sc_G := sc_inS 9 (by decide +kernel) (by decide +kernel)
set_option maxRecDepth 100000 in
theorem kM_2_123 : Cond.methodLink "StageChip" 123 ⟨"StageChip", "passMemory", "(LStageChip$Flight;)V"⟩ ∈ sc_G := sc_inG 321 (by decide +kernel) (by decide +kernel)
set_option maxRecDepth 100000 in
theorem mo_33 : sc_MO 33 1 := ⟨by decide, ⟨by decide, by decide, by decide +kernel⟩, by decide, sc_inG 332 rfl rfl, sc_inG 1 (by decide +kernel) (by decide +kernel)⟩
set_option maxRecDepth 100000 in
theorem kI_33 : Cond.instanceMethod ⟨"StageChip", "workInReached", "(LStageChip$Flight;)V"⟩ ∈ sc_G := sc_inG 331 (by decide +kernel) (by decide +kernel)
set_option maxRecDepth 100000 in
theorem kL_33 : Cond.selects "StageChip" ⟨"StageChip", "workInReached", "(LStageChip$Flight;)V"⟩ ⟨"StageChip", "workInReached", "(LStageChip$Flight;)V"⟩ ∈ sc_G := sc_inS 11 (by decide +kernel) (by decide +kernel)
set_option maxRecDepth 100000 in
theorem kM_2_127 : Cond.methodLink "StageChip" 127 ⟨"StageChip", "workInReached", "(LStageChip$Flight;)V"⟩ ∈ sc_G := sc_inG 329 (by decide +kernel) (by decide +kernel)
set_option maxRecDepth 100000 in
theorem mo_35 : sc_MO 35 1 := ⟨by decide, ⟨by decide, by decide, by decide +kernel⟩, by decide, sc_inG 402 rfl rfl, sc_inG 1 (by decide +kernel) (by decide +kernel)⟩
set_option maxRecDepth 100000 in
theorem kI_35 : Cond.instanceMethod ⟨"StageChip", "fetchIfFree", "(LStageChip$Flight;)V"⟩ ∈ sc_G := sc_inG 401 (by decide +kernel) (by decide +kernel)
set_option maxRecDepth 100000 in
theorem kL_35 : Cond.selects "StageChip" ⟨"StageChip", "fetchIfFree", "(LStageChip$Flight;)V"⟩ ⟨"StageChip", "fetchIfFree", "(LStageChip$Flight;)V"⟩ ∈ sc_G := sc_inS 22 (by decide +kernel) (by decide +kernel)
set_option maxRecDepth 100000 in
theorem kM_2_133 : Cond.methodLink "StageChip" 133 ⟨"StageChip", "fetchIfFree", "(LStageChip$Flight;)V"⟩ ∈ sc_G := sc_inG 399 (by decide +kernel) (by decide +kernel)
set_option maxRecDepth 100000 in
theorem mo_9 : sc_MO 9 3 := ⟨by decide, ⟨by decide, by decide, by decide +kernel⟩, by decide, sc_inG 222 rfl rfl, sc_inG 1 (by decide +kernel) (by decide +kernel)⟩
set_option maxRecDepth 100000 in
theorem kM_2_48 : Cond.methodLink "StageChip" 48 ⟨"StageChip", "checkArgument", "(III)V"⟩ ∈ sc_G := sc_inG 220 (by decide +kernel) (by decide +kernel)
set_option maxRecDepth 100000 in
theorem kS_9 : Cond.static ⟨"StageChip", "checkArgument", "(III)V"⟩ ∈ sc_G := sc_inG 221 (by decide +kernel) (by decide +kernel)
set_option maxRecDepth 100000 in
theorem mo_36 : sc_MO 36 0 := ⟨by decide, ⟨by decide, by decide, by decide +kernel⟩, by decide, sc_inG 296 rfl rfl, sc_inG 1 (by decide +kernel) (by decide +kernel)⟩
set_option maxRecDepth 100000 in
theorem kI_36 : Cond.instanceMethod ⟨"StageChip", "runCycle", "()V"⟩ ∈ sc_G := sc_inG 295 (by decide +kernel) (by decide +kernel)
set_option maxRecDepth 100000 in
theorem kL_36 : Cond.selects "StageChip" ⟨"StageChip", "runCycle", "()V"⟩ ⟨"StageChip", "runCycle", "()V"⟩ ∈ sc_G := sc_inS 2 (by decide +kernel) (by decide +kernel)
set_option maxRecDepth 100000 in
theorem kM_2_77 : Cond.methodLink "StageChip" 77 ⟨"StageChip", "runCycle", "()V"⟩ ∈ sc_G := sc_inG 293 (by decide +kernel) (by decide +kernel)
set_option maxRecDepth 100000 in
theorem kF_3_71 : Cond.fieldLink "StageChipModel" 71 "StageChipModel" "thrown" "I" ∈ sc_G := sc_inG 442 (by decide +kernel) (by decide +kernel)
set_option maxRecDepth 100000 in
theorem mo_43 : sc_MO 43 3 := ⟨by decide, ⟨by decide, by decide, by decide +kernel⟩, by decide, sc_inG 554 rfl rfl, sc_inG 4 (by decide +kernel) (by decide +kernel)⟩
set_option maxRecDepth 100000 in
theorem kI_43 : Cond.instanceMethod ⟨"StageChipModel", "out", "(III)Z"⟩ ∈ sc_G := sc_inG 553 (by decide +kernel) (by decide +kernel)
set_option maxRecDepth 100000 in
theorem kL_43 : Cond.selects "StageChipModel" ⟨"StageChipModel", "out", "(III)Z"⟩ ⟨"StageChipModel", "out", "(III)Z"⟩ ∈ sc_G := sc_inS 24 (by decide +kernel) (by decide +kernel)
set_option maxRecDepth 100000 in
theorem kM_3_75 : Cond.methodLink "StageChipModel" 75 ⟨"StageChipModel", "out", "(III)Z"⟩ ∈ sc_G := sc_inG 551 (by decide +kernel) (by decide +kernel)
set_option maxRecDepth 100000 in
theorem mo_44 : sc_MO 44 3 := ⟨by decide, ⟨by decide, by decide, by decide +kernel⟩, by decide, sc_inG 557 rfl rfl, sc_inG 4 (by decide +kernel) (by decide +kernel)⟩
set_option maxRecDepth 100000 in
theorem kM_3_79 : Cond.methodLink "StageChipModel" 79 ⟨"StageChipModel", "in", "(III)Z"⟩ ∈ sc_G := sc_inG 555 (by decide +kernel) (by decide +kernel)
set_option maxRecDepth 100000 in
theorem kS_44 : Cond.static ⟨"StageChipModel", "in", "(III)Z"⟩ ∈ sc_G := sc_inG 556 (by decide +kernel) (by decide +kernel)
set_option maxRecDepth 100000 in
theorem kF_3_7 : Cond.fieldLink "StageChipModel" 7 "StageChipModel" "operations" "[I" ∈ sc_G := sc_inG 443 (by decide +kernel) (by decide +kernel)
set_option maxRecDepth 100000 in
theorem kF_3_13 : Cond.fieldLink "StageChipModel" 13 "StageChipModel" "ds" "[I" ∈ sc_G := sc_inG 444 (by decide +kernel) (by decide +kernel)
set_option maxRecDepth 100000 in
theorem kF_3_16 : Cond.fieldLink "StageChipModel" 16 "StageChipModel" "ss" "[I" ∈ sc_G := sc_inG 445 (by decide +kernel) (by decide +kernel)
set_option maxRecDepth 100000 in
theorem kF_3_19 : Cond.fieldLink "StageChipModel" 19 "StageChipModel" "ts" "[I" ∈ sc_G := sc_inG 446 (by decide +kernel) (by decide +kernel)
set_option maxRecDepth 100000 in
theorem kF_3_22 : Cond.fieldLink "StageChipModel" 22 "StageChipModel" "ns" "[I" ∈ sc_G := sc_inG 447 (by decide +kernel) (by decide +kernel)
set_option maxRecDepth 100000 in
theorem kF_3_25 : Cond.fieldLink "StageChipModel" 25 "StageChipModel" "data" "[I" ∈ sc_G := sc_inG 448 (by decide +kernel) (by decide +kernel)
set_option maxRecDepth 100000 in
theorem kF_3_28 : Cond.fieldLink "StageChipModel" 28 "StageChipModel" "registers" "[I" ∈ sc_G := sc_inG 449 (by decide +kernel) (by decide +kernel)
set_option maxRecDepth 100000 in
theorem kF_3_34 : Cond.fieldLink "StageChipModel" 34 "StageChipModel" "there" "[Z" ∈ sc_G := sc_inG 451 (by decide +kernel) (by decide +kernel)
set_option maxRecDepth 100000 in
theorem mo_50 : sc_MO 50 0 := ⟨by decide, ⟨by decide, by decide, by decide +kernel⟩, by decide, sc_inG 581 rfl rfl, sc_inG 4 (by decide +kernel) (by decide +kernel)⟩
set_option maxRecDepth 100000 in
theorem kI_50 : Cond.instanceMethod ⟨"StageChipModel", "empty", "()V"⟩ ∈ sc_G := sc_inG 580 (by decide +kernel) (by decide +kernel)
set_option maxRecDepth 100000 in
theorem kL_50 : Cond.selects "StageChipModel" ⟨"StageChipModel", "empty", "()V"⟩ ⟨"StageChipModel", "empty", "()V"⟩ ∈ sc_G := sc_inS 25 (by decide +kernel) (by decide +kernel)
set_option maxRecDepth 100000 in
theorem kM_3_82 : Cond.methodLink "StageChipModel" 82 ⟨"StageChipModel", "empty", "()V"⟩ ∈ sc_G := sc_inG 578 (by decide +kernel) (by decide +kernel)
set_option maxRecDepth 100000 in
theorem kF_3_85 : Cond.fieldLink "StageChipModel" 85 "StageChipModel" "where" "I" ∈ sc_G := sc_inG 463 (by decide +kernel) (by decide +kernel)
set_option maxRecDepth 100000 in
theorem kF_3_88 : Cond.fieldLink "StageChipModel" 88 "StageChipModel" "halted" "Z" ∈ sc_G := sc_inG 467 (by decide +kernel) (by decide +kernel)
set_option maxRecDepth 100000 in
theorem kF_3_92 : Cond.fieldLink "StageChipModel" 92 "StageChipModel" "handlerAt" "I" ∈ sc_G := sc_inG 464 (by decide +kernel) (by decide +kernel)
set_option maxRecDepth 100000 in
theorem kF_3_38 : Cond.fieldLink "StageChipModel" 38 "StageChipModel" "place" "[I" ∈ sc_G := sc_inG 452 (by decide +kernel) (by decide +kernel)
set_option maxRecDepth 100000 in
theorem kF_3_41 : Cond.fieldLink "StageChipModel" 41 "StageChipModel" "op" "[I" ∈ sc_G := sc_inG 453 (by decide +kernel) (by decide +kernel)
set_option maxRecDepth 100000 in
theorem kF_3_44 : Cond.fieldLink "StageChipModel" 44 "StageChipModel" "d" "[I" ∈ sc_G := sc_inG 454 (by decide +kernel) (by decide +kernel)
set_option maxRecDepth 100000 in
theorem kF_3_47 : Cond.fieldLink "StageChipModel" 47 "StageChipModel" "s" "[I" ∈ sc_G := sc_inG 455 (by decide +kernel) (by decide +kernel)
set_option maxRecDepth 100000 in
theorem kF_3_50 : Cond.fieldLink "StageChipModel" 50 "StageChipModel" "t" "[I" ∈ sc_G := sc_inG 456 (by decide +kernel) (by decide +kernel)
set_option maxRecDepth 100000 in
theorem kF_3_53 : Cond.fieldLink "StageChipModel" 53 "StageChipModel" "n" "[I" ∈ sc_G := sc_inG 457 (by decide +kernel) (by decide +kernel)
set_option maxRecDepth 100000 in
theorem kF_3_56 : Cond.fieldLink "StageChipModel" 56 "StageChipModel" "guess" "[I" ∈ sc_G := sc_inG 458 (by decide +kernel) (by decide +kernel)
set_option maxRecDepth 100000 in
theorem kF_3_59 : Cond.fieldLink "StageChipModel" 59 "StageChipModel" "value" "[I" ∈ sc_G := sc_inG 459 (by decide +kernel) (by decide +kernel)
set_option maxRecDepth 100000 in
theorem kF_3_62 : Cond.fieldLink "StageChipModel" 62 "StageChipModel" "address" "[I" ∈ sc_G := sc_inG 460 (by decide +kernel) (by decide +kernel)
set_option maxRecDepth 100000 in
theorem kF_3_65 : Cond.fieldLink "StageChipModel" 65 "StageChipModel" "fault" "[I" ∈ sc_G := sc_inG 461 (by decide +kernel) (by decide +kernel)
set_option maxRecDepth 100000 in
theorem kF_3_95 : Cond.fieldLink "StageChipModel" 95 "StageChipModel" "faults" "I" ∈ sc_G := sc_inG 472 (by decide +kernel) (by decide +kernel)
set_option maxRecDepth 100000 in
theorem kF_3_98 : Cond.fieldLink "StageChipModel" 98 "StageChipModel" "cause" "I" ∈ sc_G := sc_inG 465 (by decide +kernel) (by decide +kernel)
set_option maxRecDepth 100000 in
theorem kF_3_101 : Cond.fieldLink "StageChipModel" 101 "StageChipModel" "back" "I" ∈ sc_G := sc_inG 466 (by decide +kernel) (by decide +kernel)
set_option maxRecDepth 100000 in
theorem mo_53 : sc_MO 53 1 := ⟨by decide, ⟨by decide, by decide, by decide +kernel⟩, by decide, sc_inG 600 rfl rfl, sc_inG 4 (by decide +kernel) (by decide +kernel)⟩
set_option maxRecDepth 100000 in
theorem kM_3_104 : Cond.methodLink "StageChipModel" 104 ⟨"StageChipModel", "writes", "(I)Z"⟩ ∈ sc_G := sc_inG 598 (by decide +kernel) (by decide +kernel)
set_option maxRecDepth 100000 in
theorem kS_53 : Cond.static ⟨"StageChipModel", "writes", "(I)Z"⟩ ∈ sc_G := sc_inG 599 (by decide +kernel) (by decide +kernel)
set_option maxRecDepth 100000 in
theorem kF_3_108 : Cond.fieldLink "StageChipModel" 108 "StageChipModel" "done" "I" ∈ sc_G := sc_inG 469 (by decide +kernel) (by decide +kernel)
set_option maxRecDepth 100000 in
theorem kF_3_68 : Cond.fieldLink "StageChipModel" 68 "StageChipModel" "last" "[I" ∈ sc_G := sc_inG 474 (by decide +kernel) (by decide +kernel)
set_option maxRecDepth 100000 in
theorem kF_3_111 : Cond.fieldLink "StageChipModel" 111 "StageChipModel" "kept" "I" ∈ sc_G := sc_inG 473 (by decide +kernel) (by decide +kernel)
set_option maxRecDepth 100000 in
theorem mo_56 : sc_MO 56 1 := ⟨by decide, ⟨by decide, by decide, by decide +kernel⟩, by decide, sc_inG 608 rfl rfl, sc_inG 4 (by decide +kernel) (by decide +kernel)⟩
set_option maxRecDepth 100000 in
theorem kI_56 : Cond.instanceMethod ⟨"StageChipModel", "move", "(I)V"⟩ ∈ sc_G := sc_inG 607 (by decide +kernel) (by decide +kernel)
set_option maxRecDepth 100000 in
theorem kL_56 : Cond.selects "StageChipModel" ⟨"StageChipModel", "move", "(I)V"⟩ ⟨"StageChipModel", "move", "(I)V"⟩ ∈ sc_G := sc_inS 29 (by decide +kernel) (by decide +kernel)
set_option maxRecDepth 100000 in
theorem kM_3_114 : Cond.methodLink "StageChipModel" 114 ⟨"StageChipModel", "move", "(I)V"⟩ ∈ sc_G := sc_inG 605 (by decide +kernel) (by decide +kernel)
set_option maxRecDepth 100000 in
theorem mo_59 : sc_MO 59 1 := ⟨by decide, ⟨by decide, by decide, by decide +kernel⟩, by decide, sc_inG 626 rfl rfl, sc_inG 4 (by decide +kernel) (by decide +kernel)⟩
set_option maxRecDepth 100000 in
theorem kI_59 : Cond.instanceMethod ⟨"StageChipModel", "read", "(I)I"⟩ ∈ sc_G := sc_inG 625 (by decide +kernel) (by decide +kernel)
set_option maxRecDepth 100000 in
theorem kL_59 : Cond.selects "StageChipModel" ⟨"StageChipModel", "read", "(I)I"⟩ ⟨"StageChipModel", "read", "(I)I"⟩ ∈ sc_G := sc_inS 32 (by decide +kernel) (by decide +kernel)
set_option maxRecDepth 100000 in
theorem kM_3_118 : Cond.methodLink "StageChipModel" 118 ⟨"StageChipModel", "read", "(I)I"⟩ ∈ sc_G := sc_inG 623 (by decide +kernel) (by decide +kernel)
set_option maxRecDepth 100000 in
theorem mo_60 : sc_MO 60 3 := ⟨by decide, ⟨by decide, by decide, by decide +kernel⟩, by decide, sc_inG 629 rfl rfl, sc_inG 4 (by decide +kernel) (by decide +kernel)⟩
set_option maxRecDepth 100000 in
theorem kM_3_122 : Cond.methodLink "StageChipModel" 122 ⟨"StageChipModel", "reckon", "(III)I"⟩ ∈ sc_G := sc_inG 627 (by decide +kernel) (by decide +kernel)
set_option maxRecDepth 100000 in
theorem kS_60 : Cond.static ⟨"StageChipModel", "reckon", "(III)I"⟩ ∈ sc_G := sc_inG 628 (by decide +kernel) (by decide +kernel)
set_option maxRecDepth 100000 in
theorem kF_3_31 : Cond.fieldLink "StageChipModel" 31 "StageChipModel" "counters" "[I" ∈ sc_G := sc_inG 450 (by decide +kernel) (by decide +kernel)
set_option maxRecDepth 100000 in
theorem mo_54 : sc_MO 54 1 := ⟨by decide, ⟨by decide, by decide, by decide +kernel⟩, by decide, sc_inG 615 rfl rfl, sc_inG 4 (by decide +kernel) (by decide +kernel)⟩
set_option maxRecDepth 100000 in
theorem kM_3_126 : Cond.methodLink "StageChipModel" 126 ⟨"StageChipModel", "usesFirst", "(I)Z"⟩ ∈ sc_G := sc_inG 613 (by decide +kernel) (by decide +kernel)
set_option maxRecDepth 100000 in
theorem kS_54 : Cond.static ⟨"StageChipModel", "usesFirst", "(I)Z"⟩ ∈ sc_G := sc_inG 614 (by decide +kernel) (by decide +kernel)
set_option maxRecDepth 100000 in
theorem mo_55 : sc_MO 55 1 := ⟨by decide, ⟨by decide, by decide, by decide +kernel⟩, by decide, sc_inG 618 rfl rfl, sc_inG 4 (by decide +kernel) (by decide +kernel)⟩
set_option maxRecDepth 100000 in
theorem kM_3_129 : Cond.methodLink "StageChipModel" 129 ⟨"StageChipModel", "usesSecond", "(I)Z"⟩ ∈ sc_G := sc_inG 616 (by decide +kernel) (by decide +kernel)
set_option maxRecDepth 100000 in
theorem kS_55 : Cond.static ⟨"StageChipModel", "usesSecond", "(I)Z"⟩ ∈ sc_G := sc_inG 617 (by decide +kernel) (by decide +kernel)
set_option maxRecDepth 100000 in
theorem kF_3_132 : Cond.fieldLink "StageChipModel" 132 "StageChipModel" "waits" "I" ∈ sc_G := sc_inG 470 (by decide +kernel) (by decide +kernel)
set_option maxRecDepth 100000 in
theorem kF_3_135 : Cond.fieldLink "StageChipModel" 135 "StageChipModel" "left" "I" ∈ sc_G := sc_inG 462 (by decide +kernel) (by decide +kernel)
set_option maxRecDepth 100000 in
theorem mo_61 : sc_MO 61 0 := ⟨by decide, ⟨by decide, by decide, by decide +kernel⟩, by decide, sc_inG 622 rfl rfl, sc_inG 4 (by decide +kernel) (by decide +kernel)⟩
set_option maxRecDepth 100000 in
theorem kI_61 : Cond.instanceMethod ⟨"StageChipModel", "work", "()I"⟩ ∈ sc_G := sc_inG 621 (by decide +kernel) (by decide +kernel)
set_option maxRecDepth 100000 in
theorem kL_61 : Cond.selects "StageChipModel" ⟨"StageChipModel", "work", "()I"⟩ ⟨"StageChipModel", "work", "()I"⟩ ∈ sc_G := sc_inS 31 (by decide +kernel) (by decide +kernel)
set_option maxRecDepth 100000 in
theorem kM_3_138 : Cond.methodLink "StageChipModel" 138 ⟨"StageChipModel", "work", "()I"⟩ ∈ sc_G := sc_inG 619 (by decide +kernel) (by decide +kernel)
set_option maxRecDepth 100000 in
theorem kF_3_142 : Cond.fieldLink "StageChipModel" 142 "StageChipModel" "differed" "I" ∈ sc_G := sc_inG 471 (by decide +kernel) (by decide +kernel)
set_option maxRecDepth 100000 in
theorem kF_3_145 : Cond.fieldLink "StageChipModel" 145 "StageChipModel" "all" "I" ∈ sc_G := sc_inG 468 (by decide +kernel) (by decide +kernel)
set_option maxRecDepth 100000 in
theorem mo_57 : sc_MO 57 0 := ⟨by decide, ⟨by decide, by decide, by decide +kernel⟩, by decide, sc_inG 597 rfl rfl, sc_inG 4 (by decide +kernel) (by decide +kernel)⟩
set_option maxRecDepth 100000 in
theorem kI_57 : Cond.instanceMethod ⟨"StageChipModel", "leave", "()Z"⟩ ∈ sc_G := sc_inG 596 (by decide +kernel) (by decide +kernel)
set_option maxRecDepth 100000 in
theorem kL_57 : Cond.selects "StageChipModel" ⟨"StageChipModel", "leave", "()Z"⟩ ⟨"StageChipModel", "leave", "()Z"⟩ ∈ sc_G := sc_inS 27 (by decide +kernel) (by decide +kernel)
set_option maxRecDepth 100000 in
theorem kM_3_148 : Cond.methodLink "StageChipModel" 148 ⟨"StageChipModel", "leave", "()Z"⟩ ∈ sc_G := sc_inG 594 (by decide +kernel) (by decide +kernel)
set_option maxRecDepth 100000 in
theorem mo_58 : sc_MO 58 0 := ⟨by decide, ⟨by decide, by decide, by decide +kernel⟩, by decide, sc_inG 604 rfl rfl, sc_inG 4 (by decide +kernel) (by decide +kernel)⟩
set_option maxRecDepth 100000 in
theorem kI_58 : Cond.instanceMethod ⟨"StageChipModel", "remember", "()V"⟩ ∈ sc_G := sc_inG 603 (by decide +kernel) (by decide +kernel)
set_option maxRecDepth 100000 in
theorem kL_58 : Cond.selects "StageChipModel" ⟨"StageChipModel", "remember", "()V"⟩ ⟨"StageChipModel", "remember", "()V"⟩ ∈ sc_G := sc_inS 28 (by decide +kernel) (by decide +kernel)
set_option maxRecDepth 100000 in
theorem kM_3_152 : Cond.methodLink "StageChipModel" 152 ⟨"StageChipModel", "remember", "()V"⟩ ∈ sc_G := sc_inG 601 (by decide +kernel) (by decide +kernel)
set_option maxRecDepth 100000 in
theorem mo_62 : sc_MO 62 1 := ⟨by decide, ⟨by decide, by decide, by decide +kernel⟩, by decide, sc_inG 612 rfl rfl, sc_inG 4 (by decide +kernel) (by decide +kernel)⟩
set_option maxRecDepth 100000 in
theorem kI_62 : Cond.instanceMethod ⟨"StageChipModel", "reach", "(I)V"⟩ ∈ sc_G := sc_inG 611 (by decide +kernel) (by decide +kernel)
set_option maxRecDepth 100000 in
theorem kL_62 : Cond.selects "StageChipModel" ⟨"StageChipModel", "reach", "(I)V"⟩ ⟨"StageChipModel", "reach", "(I)V"⟩ ∈ sc_G := sc_inS 30 (by decide +kernel) (by decide +kernel)
set_option maxRecDepth 100000 in
theorem kM_3_155 : Cond.methodLink "StageChipModel" 155 ⟨"StageChipModel", "reach", "(I)V"⟩ ∈ sc_G := sc_inG 609 (by decide +kernel) (by decide +kernel)
set_option maxRecDepth 100000 in
theorem mo_63 : sc_MO 63 0 := ⟨by decide, ⟨by decide, by decide, by decide +kernel⟩, by decide, sc_inG 633 rfl rfl, sc_inG 4 (by decide +kernel) (by decide +kernel)⟩
set_option maxRecDepth 100000 in
theorem kI_63 : Cond.instanceMethod ⟨"StageChipModel", "fetch", "()V"⟩ ∈ sc_G := sc_inG 632 (by decide +kernel) (by decide +kernel)
set_option maxRecDepth 100000 in
theorem kL_63 : Cond.selects "StageChipModel" ⟨"StageChipModel", "fetch", "()V"⟩ ⟨"StageChipModel", "fetch", "()V"⟩ ∈ sc_G := sc_inS 33 (by decide +kernel) (by decide +kernel)
set_option maxRecDepth 100000 in
theorem kM_3_158 : Cond.methodLink "StageChipModel" 158 ⟨"StageChipModel", "fetch", "()V"⟩ ∈ sc_G := sc_inG 630 (by decide +kernel) (by decide +kernel)
set_option maxRecDepth 100000 in
theorem mo_64 : sc_MO 64 0 := ⟨by decide, ⟨by decide, by decide, by decide +kernel⟩, by decide, sc_inG 593 rfl rfl, sc_inG 4 (by decide +kernel) (by decide +kernel)⟩
set_option maxRecDepth 100000 in
theorem kI_64 : Cond.instanceMethod ⟨"StageChipModel", "cycle", "()V"⟩ ∈ sc_G := sc_inG 592 (by decide +kernel) (by decide +kernel)
set_option maxRecDepth 100000 in
theorem kL_64 : Cond.selects "StageChipModel" ⟨"StageChipModel", "cycle", "()V"⟩ ⟨"StageChipModel", "cycle", "()V"⟩ ∈ sc_G := sc_inS 26 (by decide +kernel) (by decide +kernel)
set_option maxRecDepth 100000 in
theorem kM_3_161 : Cond.methodLink "StageChipModel" 161 ⟨"StageChipModel", "cycle", "()V"⟩ ∈ sc_G := sc_inG 590 (by decide +kernel) (by decide +kernel)
set_option maxRecDepth 100000 in
set_option maxHeartbeats 4000000 in
theorem ts_X0_does : sc_TS yX0_does cX0_does 2 (some .boolean) st_X0_does :=
  sc_tc (sc_s_aload_n dX0_does_0 rfl) (
  sc_tc (sc_s_get dX0_does_1 (by decide) (by decide) kF_0_15) (
  sc_tc (sc_s_if_eq dX0_does_4 (by decide)) (
  sc_tc (sc_s_aload_n dX0_does_7 rfl) (
  sc_tc (sc_s_get dX0_does_8 (by decide) (by decide) kF_0_19) (
  sc_tc (sc_s_if_ne dX0_does_11 (by decide)) (
  sc_tc (sc_s_aload_n dX0_does_14 rfl) (
  sc_tc (sc_s_get dX0_does_15 (by decide) (by decide) kF_0_9) (
  sc_tc (sc_s_getN dX0_does_18 (by decide) (by decide) kN_0_23) (
  sc_tc (sc_s_iload_n dX0_does_21 rfl) (
  sc_tc (sc_s_icmp_ne dX0_does_22 (by decide)) (
  sc_tc (sc_s_iconst dX0_does_25 (by decide)) (
  sc_tc (sc_s_goto dX0_does_26 (by decide)) (
  sc_tc (sc_s_iconst dX0_does_29 (by decide)) (
  sc_tc (sc_s_retZ dX0_does_30 rfl) ( trivial)))))))))))))))
set_option maxRecDepth 100000 in
set_option maxHeartbeats 4000000 in
theorem ts_X1_writesD : sc_TS yX1_writesD cX1_writesD 1 (some .boolean) st_X1_writesD :=
  sc_tc (sc_s_aload_n dX1_writesD_0 rfl) (
  sc_tc (sc_s_get dX1_writesD_1 (by decide) (by decide) kF_1_9) (
  sc_tc (sc_s_bipush dX1_writesD_4 (by decide)) (
  sc_tc (sc_s_icmp_le dX1_writesD_6 (by decide)) (
  sc_tc (sc_s_aload_n dX1_writesD_9 rfl) (
  sc_tc (sc_s_get dX1_writesD_10 (by decide) (by decide) kF_1_9) (
  sc_tc (sc_s_bipush dX1_writesD_13 (by decide)) (
  sc_tc (sc_s_icmp_eq dX1_writesD_15 (by decide)) (
  sc_tc (sc_s_aload_n dX1_writesD_18 rfl) (
  sc_tc (sc_s_get dX1_writesD_19 (by decide) (by decide) kF_1_9) (
  sc_tc (sc_s_bipush dX1_writesD_22 (by decide)) (
  sc_tc (sc_s_icmp_ne dX1_writesD_24 (by decide)) (
  sc_tc (sc_s_iconst dX1_writesD_27 (by decide)) (
  sc_tc (sc_s_goto dX1_writesD_28 (by decide)) (
  sc_tc (sc_s_iconst dX1_writesD_31 (by decide)) (
  sc_tc (sc_s_retZ dX1_writesD_32 rfl) ( trivial))))))))))))))))
set_option maxRecDepth 100000 in
set_option maxHeartbeats 4000000 in
theorem ts_X0_writes : sc_TS yX0_writes cX0_writes 2 (some .boolean) st_X0_writes :=
  sc_tc (sc_s_aload_n dX0_writes_0 rfl) (
  sc_tc (sc_s_get dX0_writes_1 (by decide) (by decide) kF_0_15) (
  sc_tc (sc_s_if_eq dX0_writes_4 (by decide)) (
  sc_tc (sc_s_aload_n dX0_writes_7 rfl) (
  sc_tc (sc_s_get dX0_writes_8 (by decide) (by decide) kF_0_19) (
  sc_tc (sc_s_if_ne dX0_writes_11 (by decide)) (
  sc_tc (sc_s_iload_n dX0_writes_14 rfl) (
  sc_tc (sc_s_if_eq dX0_writes_15 (by decide)) (
  sc_tc (sc_s_aload_n dX0_writes_18 rfl) (
  sc_tc (sc_s_get dX0_writes_19 (by decide) (by decide) kF_0_9) (
  sc_tc (sc_s_invN dX0_writes_22 mo_1 (by decide) rfl kG_0_28 kI_1 kL_1) (
  sc_tc (sc_s_if_eq dX0_writes_25 (by decide)) (
  sc_tc (sc_s_aload_n dX0_writes_28 rfl) (
  sc_tc (sc_s_get dX0_writes_29 (by decide) (by decide) kF_0_9) (
  sc_tc (sc_s_getN dX0_writes_32 (by decide) (by decide) kN_0_32) (
  sc_tc (sc_s_iload_n dX0_writes_35 rfl) (
  sc_tc (sc_s_icmp_ne dX0_writes_36 (by decide)) (
  sc_tc (sc_s_iconst dX0_writes_39 (by decide)) (
  sc_tc (sc_s_goto dX0_writes_40 (by decide)) (
  sc_tc (sc_s_iconst dX0_writes_43 (by decide)) (
  sc_tc (sc_s_retZ dX0_writes_44 rfl) ( trivial)))))))))))))))))))))
set_option maxRecDepth 100000 in
set_option maxHeartbeats 4000000 in
theorem ts_X1_isBranch : sc_TS yX1_isBranch cX1_isBranch 1 (some .boolean) st_X1_isBranch :=
  sc_tc (sc_s_aload_n dX1_isBranch_0 rfl) (
  sc_tc (sc_s_get dX1_isBranch_1 (by decide) (by decide) kF_1_9) (
  sc_tc (sc_s_bipush dX1_isBranch_4 (by decide)) (
  sc_tc (sc_s_icmp_eq dX1_isBranch_6 (by decide)) (
  sc_tc (sc_s_aload_n dX1_isBranch_9 rfl) (
  sc_tc (sc_s_get dX1_isBranch_10 (by decide) (by decide) kF_1_9) (
  sc_tc (sc_s_bipush dX1_isBranch_13 (by decide)) (
  sc_tc (sc_s_icmp_ne dX1_isBranch_15 (by decide)) (
  sc_tc (sc_s_iconst dX1_isBranch_18 (by decide)) (
  sc_tc (sc_s_goto dX1_isBranch_19 (by decide)) (
  sc_tc (sc_s_iconst dX1_isBranch_22 (by decide)) (
  sc_tc (sc_s_retZ dX1_isBranch_23 rfl) ( trivial))))))))))))
set_option maxRecDepth 100000 in
set_option maxHeartbeats 4000000 in
theorem ts_X1_usesT : sc_TS yX1_usesT cX1_usesT 1 (some .boolean) st_X1_usesT :=
  sc_tc (sc_s_aload_n dX1_usesT_0 rfl) (
  sc_tc (sc_s_get dX1_usesT_1 (by decide) (by decide) kF_1_9) (
  sc_tc (sc_s_bipush dX1_usesT_4 (by decide)) (
  sc_tc (sc_s_icmp_le dX1_usesT_6 (by decide)) (
  sc_tc (sc_s_aload_n dX1_usesT_9 rfl) (
  sc_tc (sc_s_get dX1_usesT_10 (by decide) (by decide) kF_1_9) (
  sc_tc (sc_s_bipush dX1_usesT_13 (by decide)) (
  sc_tc (sc_s_icmp_eq dX1_usesT_15 (by decide)) (
  sc_tc (sc_s_aload_n dX1_usesT_18 rfl) (
  sc_tc (sc_s_inv dX1_usesT_19 mo_3 (by decide) rfl kM_1_31 kI_3 kL_3) (
  sc_tc (sc_s_if_eq dX1_usesT_22 (by decide)) (
  sc_tc (sc_s_iconst dX1_usesT_25 (by decide)) (
  sc_tc (sc_s_goto dX1_usesT_26 (by decide)) (
  sc_tc (sc_s_iconst dX1_usesT_29 (by decide)) (
  sc_tc (sc_s_retZ dX1_usesT_30 rfl) ( trivial)))))))))))))))
set_option maxRecDepth 100000 in
set_option maxHeartbeats 4000000 in
theorem ts_X1_usesS : sc_TS yX1_usesS cX1_usesS 1 (some .boolean) st_X1_usesS :=
  sc_tc (sc_s_aload_n dX1_usesS_0 rfl) (
  sc_tc (sc_s_get dX1_usesS_1 (by decide) (by decide) kF_1_9) (
  sc_tc (sc_s_bipush dX1_usesS_4 (by decide)) (
  sc_tc (sc_s_icmp_le dX1_usesS_6 (by decide)) (
  sc_tc (sc_s_aload_n dX1_usesS_9 rfl) (
  sc_tc (sc_s_get dX1_usesS_10 (by decide) (by decide) kF_1_9) (
  sc_tc (sc_s_bipush dX1_usesS_13 (by decide)) (
  sc_tc (sc_s_icmp_eq dX1_usesS_15 (by decide)) (
  sc_tc (sc_s_aload_n dX1_usesS_18 rfl) (
  sc_tc (sc_s_get dX1_usesS_19 (by decide) (by decide) kF_1_9) (
  sc_tc (sc_s_bipush dX1_usesS_22 (by decide)) (
  sc_tc (sc_s_icmp_eq dX1_usesS_24 (by decide)) (
  sc_tc (sc_s_aload_n dX1_usesS_27 rfl) (
  sc_tc (sc_s_inv dX1_usesS_28 mo_4 (by decide) rfl kM_1_27 kI_4 kL_4) (
  sc_tc (sc_s_if_eq dX1_usesS_31 (by decide)) (
  sc_tc (sc_s_iconst dX1_usesS_34 (by decide)) (
  sc_tc (sc_s_goto dX1_usesS_35 (by decide)) (
  sc_tc (sc_s_iconst dX1_usesS_38 (by decide)) (
  sc_tc (sc_s_retZ dX1_usesS_39 rfl) ( trivial)))))))))))))))))))
set_option maxRecDepth 100000 in
set_option maxHeartbeats 4000000 in
theorem ts_X1_touchesData : sc_TS yX1_touchesData cX1_touchesData 1 (some .boolean) st_X1_touchesData :=
  sc_tc (sc_s_aload_n dX1_touchesData_0 rfl) (
  sc_tc (sc_s_get dX1_touchesData_1 (by decide) (by decide) kF_1_9) (
  sc_tc (sc_s_bipush dX1_touchesData_4 (by decide)) (
  sc_tc (sc_s_icmp_eq dX1_touchesData_6 (by decide)) (
  sc_tc (sc_s_aload_n dX1_touchesData_9 rfl) (
  sc_tc (sc_s_get dX1_touchesData_10 (by decide) (by decide) kF_1_9) (
  sc_tc (sc_s_bipush dX1_touchesData_13 (by decide)) (
  sc_tc (sc_s_icmp_ne dX1_touchesData_15 (by decide)) (
  sc_tc (sc_s_iconst dX1_touchesData_18 (by decide)) (
  sc_tc (sc_s_goto dX1_touchesData_19 (by decide)) (
  sc_tc (sc_s_iconst dX1_touchesData_22 (by decide)) (
  sc_tc (sc_s_retZ dX1_touchesData_23 rfl) ( trivial))))))))))))
set_option maxRecDepth 100000 in
set_option maxHeartbeats 4000000 in
theorem ts_X1_workCycles : sc_TS yX1_workCycles cX1_workCycles 1 (some .int) st_X1_workCycles :=
  sc_tc (sc_s_aload_n dX1_workCycles_0 rfl) (
  sc_tc (sc_s_get dX1_workCycles_1 (by decide) (by decide) kF_1_9) (
  sc_tc (sc_s_bipush dX1_workCycles_4 (by decide)) (
  sc_tc (sc_s_icmp_ne dX1_workCycles_6 (by decide)) (
  sc_tc (sc_s_iconst dX1_workCycles_9 (by decide)) (
  sc_tc (sc_s_retI dX1_workCycles_10 rfl) (
  sc_tc (sc_s_aload_n dX1_workCycles_11 rfl) (
  sc_tc (sc_s_get dX1_workCycles_12 (by decide) (by decide) kF_1_9) (
  sc_tc (sc_s_bipush dX1_workCycles_15 (by decide)) (
  sc_tc (sc_s_icmp_ne dX1_workCycles_17 (by decide)) (
  sc_tc (sc_s_bipush dX1_workCycles_20 (by decide)) (
  sc_tc (sc_s_goto dX1_workCycles_22 (by decide)) (
  sc_tc (sc_s_iconst dX1_workCycles_25 (by decide)) (
  sc_tc (sc_s_retI dX1_workCycles_26 rfl) ( trivial))))))))))))))
set_option maxRecDepth 100000 in
set_option maxHeartbeats 4000000 in
theorem ts_X2_checkIndex : sc_TS yX2_checkIndex cX2_checkIndex 2 none st_X2_checkIndex :=
  sc_tc (sc_s_iload_n dX2_checkIndex_0 rfl) (
  sc_tc (sc_s_if_lt dX2_checkIndex_1 (by decide)) (
  sc_tc (sc_s_iload_n dX2_checkIndex_4 rfl) (
  sc_tc (sc_s_iload_n dX2_checkIndex_5 rfl) (
  sc_tc (sc_s_icmp_lt dX2_checkIndex_6 (by decide)) (
  sc_tc (sc_s_bad) (
  sc_tc (sc_s_dup dX2_checkIndex_12) (
  sc_tc (sc_s_bad) (
  sc_tc (sc_s_bad) (
  sc_tc (sc_s_bad) (
  sc_tc (sc_s_retV dX2_checkIndex_19 rfl) ( trivial)))))))))))
set_option maxRecDepth 100000 in
set_option maxHeartbeats 4000000 in
theorem ts_X2_checkArgument : sc_TS yX2_checkArgument cX2_checkArgument 3 none st_X2_checkArgument :=
  sc_tc (sc_s_iload_n dX2_checkArgument_0 rfl) (
  sc_tc (sc_s_iload_n dX2_checkArgument_1 rfl) (
  sc_tc (sc_s_icmp_lt dX2_checkArgument_2 (by decide)) (
  sc_tc (sc_s_iload_n dX2_checkArgument_5 rfl) (
  sc_tc (sc_s_iload_n dX2_checkArgument_6 rfl) (
  sc_tc (sc_s_icmp_le dX2_checkArgument_7 (by decide)) (
  sc_tc (sc_s_bad) (
  sc_tc (sc_s_dup dX2_checkArgument_13) (
  sc_tc (sc_s_bad) (
  sc_tc (sc_s_bad) (
  sc_tc (sc_s_bad) (
  sc_tc (sc_s_retV dX2_checkArgument_20 rfl) ( trivial))))))))))))
set_option maxRecDepth 100000 in
set_option maxHeartbeats 4000000 in
theorem ts_X2_poke : sc_TS yX2_poke cX2_poke 4 (some .int) st_X2_poke :=
  sc_tc (sc_s_iload_n dX2_poke_0 rfl) (
  sc_tc (sc_s_bipush dX2_poke_1 (by decide)) (
  sc_tc (sc_s_ins dX2_poke_3 mo_8 kM_2_44 kS_8) (
  sc_tc (sc_s_aload_n dX2_poke_6 rfl) (
  sc_tc (sc_s_get dX2_poke_7 (by decide) (by decide) kF_2_22) (
  sc_tc (sc_s_iload_n dX2_poke_10 rfl) (
  sc_tc (sc_s_iaload dX2_poke_11) (
  sc_tc (sc_s_istore_n dX2_poke_12 rfl (by decide)) (
  sc_tc (sc_s_aload_n dX2_poke_13 rfl) (
  sc_tc (sc_s_get dX2_poke_14 (by decide) (by decide) kF_2_22) (
  sc_tc (sc_s_iload_n dX2_poke_17 rfl) (
  sc_tc (sc_s_iload_n dX2_poke_18 rfl) (
  sc_tc (sc_s_iastore dX2_poke_19) (
  sc_tc (sc_s_iload_n dX2_poke_20 rfl) (
  sc_tc (sc_s_retI dX2_poke_21 rfl) ( trivial)))))))))))))))
set_option maxRecDepth 100000 in
set_option maxHeartbeats 4000000 in
theorem ts_X2_peek : sc_TS yX2_peek cX2_peek 2 (some .int) st_X2_peek :=
  sc_tc (sc_s_iload_n dX2_peek_0 rfl) (
  sc_tc (sc_s_bipush dX2_peek_1 (by decide)) (
  sc_tc (sc_s_ins dX2_peek_3 mo_8 kM_2_44 kS_8) (
  sc_tc (sc_s_aload_n dX2_peek_6 rfl) (
  sc_tc (sc_s_get dX2_peek_7 (by decide) (by decide) kF_2_22) (
  sc_tc (sc_s_iload_n dX2_peek_10 rfl) (
  sc_tc (sc_s_iaload dX2_peek_11) (
  sc_tc (sc_s_retI dX2_peek_12 rfl) ( trivial))))))))
set_option maxRecDepth 100000 in
set_option maxHeartbeats 4000000 in
theorem ts_X2_set : sc_TS yX2_set cX2_set 4 (some .int) st_X2_set :=
  sc_tc (sc_s_iload_n dX2_set_0 rfl) (
  sc_tc (sc_s_bipush dX2_set_1 (by decide)) (
  sc_tc (sc_s_ins dX2_set_3 mo_8 kM_2_44 kS_8) (
  sc_tc (sc_s_iload_n dX2_set_6 rfl) (
  sc_tc (sc_s_if_ne dX2_set_7 (by decide)) (
  sc_tc (sc_s_bad) (
  sc_tc (sc_s_dup dX2_set_13) (
  sc_tc (sc_s_bad) (
  sc_tc (sc_s_bad) (
  sc_tc (sc_s_bad) (
  sc_tc (sc_s_aload_n dX2_set_20 rfl) (
  sc_tc (sc_s_get dX2_set_21 (by decide) (by decide) kF_2_26) (
  sc_tc (sc_s_iload_n dX2_set_24 rfl) (
  sc_tc (sc_s_iaload dX2_set_25) (
  sc_tc (sc_s_istore_n dX2_set_26 rfl (by decide)) (
  sc_tc (sc_s_aload_n dX2_set_27 rfl) (
  sc_tc (sc_s_get dX2_set_28 (by decide) (by decide) kF_2_26) (
  sc_tc (sc_s_iload_n dX2_set_31 rfl) (
  sc_tc (sc_s_iload_n dX2_set_32 rfl) (
  sc_tc (sc_s_iastore dX2_set_33) (
  sc_tc (sc_s_iload_n dX2_set_34 rfl) (
  sc_tc (sc_s_retI dX2_set_35 rfl) ( trivial))))))))))))))))))))))
set_option maxRecDepth 100000 in
set_option maxHeartbeats 4000000 in
theorem ts_X2_register : sc_TS yX2_register cX2_register 2 (some .int) st_X2_register :=
  sc_tc (sc_s_iload_n dX2_register_0 rfl) (
  sc_tc (sc_s_bipush dX2_register_1 (by decide)) (
  sc_tc (sc_s_ins dX2_register_3 mo_8 kM_2_44 kS_8) (
  sc_tc (sc_s_aload_n dX2_register_6 rfl) (
  sc_tc (sc_s_get dX2_register_7 (by decide) (by decide) kF_2_26) (
  sc_tc (sc_s_iload_n dX2_register_10 rfl) (
  sc_tc (sc_s_iaload dX2_register_11) (
  sc_tc (sc_s_retI dX2_register_12 rfl) ( trivial))))))))
set_option maxRecDepth 100000 in
set_option maxHeartbeats 4000000 in
theorem ts_X2_emptyStagesBelow : sc_TS yX2_emptyStagesBelow cX2_emptyStagesBelow 3 none st_X2_emptyStagesBelow :=
  sc_tc (sc_s_iconst dX2_emptyStagesBelow_0 (by decide)) (
  sc_tc (sc_s_istore_n dX2_emptyStagesBelow_1 rfl (by decide)) (
  sc_tc (sc_s_iload_n dX2_emptyStagesBelow_2 rfl) (
  sc_tc (sc_s_iload_n dX2_emptyStagesBelow_3 rfl) (
  sc_tc (sc_s_icmp_ge dX2_emptyStagesBelow_4 (by decide)) (
  sc_tc (sc_s_aload_n dX2_emptyStagesBelow_7 rfl) (
  sc_tc (sc_s_get dX2_emptyStagesBelow_8 (by decide) (by decide) kF_2_34) (
  sc_tc (sc_s_iload_n dX2_emptyStagesBelow_11 rfl) (
  sc_tc (sc_s_fload dX2_emptyStagesBelow_12) (
  sc_tc (sc_s_iconst dX2_emptyStagesBelow_13 (by decide)) (
  sc_tc (sc_s_putZN dX2_emptyStagesBelow_14 (Or.inl rfl) (by decide) rfl rfl (by decide +kernel) kN_2_80) (
  sc_tc (sc_s_iinc dX2_emptyStagesBelow_17 (by decide) (by decide)) (
  sc_tc (sc_s_goto dX2_emptyStagesBelow_20 (by decide)) (
  sc_tc (sc_s_retV dX2_emptyStagesBelow_23 rfl) ( trivial))))))))))))))
set_option maxRecDepth 100000 in
set_option maxHeartbeats 4000000 in
theorem ts_X2_start : sc_TS yX2_start cX2_start 2 none st_X2_start :=
  sc_tc (sc_s_iload_n dX2_start_0 rfl) (
  sc_tc (sc_s_bipush dX2_start_1 (by decide)) (
  sc_tc (sc_s_ins dX2_start_3 mo_8 kM_2_44 kS_8) (
  sc_tc (sc_s_aload_n dX2_start_6 rfl) (
  sc_tc (sc_s_iconst dX2_start_7 (by decide)) (
  sc_tc (sc_s_inv dX2_start_8 mo_14 (by decide) rfl kM_2_59 kI_14 kL_14) (
  sc_tc (sc_s_aload_n dX2_start_11 rfl) (
  sc_tc (sc_s_iload_n dX2_start_12 rfl) (
  sc_tc (sc_s_putI dX2_start_13 (Or.inr (Or.inl rfl)) (by decide) rfl rfl (by decide +kernel) kF_2_63) (
  sc_tc (sc_s_aload_n dX2_start_16 rfl) (
  sc_tc (sc_s_iconst dX2_start_17 (by decide)) (
  sc_tc (sc_s_putZ dX2_start_18 (Or.inr (Or.inl rfl)) (by decide) rfl rfl (by decide +kernel) kF_2_67) (
  sc_tc (sc_s_retV dX2_start_21 rfl) ( trivial)))))))))))))
set_option maxRecDepth 100000 in
set_option maxHeartbeats 4000000 in
theorem ts_X2_handler : sc_TS yX2_handler cX2_handler 3 (some .int) st_X2_handler :=
  sc_tc (sc_s_iload_n dX2_handler_0 rfl) (
  sc_tc (sc_s_bipush dX2_handler_1 (by decide)) (
  sc_tc (sc_s_ins dX2_handler_3 mo_8 kM_2_44 kS_8) (
  sc_tc (sc_s_aload_n dX2_handler_6 rfl) (
  sc_tc (sc_s_get dX2_handler_7 (by decide) (by decide) kF_2_71) (
  sc_tc (sc_s_istore_n dX2_handler_10 rfl (by decide)) (
  sc_tc (sc_s_aload_n dX2_handler_11 rfl) (
  sc_tc (sc_s_iload_n dX2_handler_12 rfl) (
  sc_tc (sc_s_putI dX2_handler_13 (Or.inr (Or.inl rfl)) (by decide) rfl rfl (by decide +kernel) kF_2_71) (
  sc_tc (sc_s_iload_n dX2_handler_16 rfl) (
  sc_tc (sc_s_retI dX2_handler_17 rfl) ( trivial)))))))))))
set_option maxRecDepth 100000 in
set_option maxHeartbeats 4000000 in
theorem ts_X2_takeFault : sc_TS yX2_takeFault cX2_takeFault 2 none st_X2_takeFault :=
  sc_tc (sc_s_aload_n dX2_takeFault_0 rfl) (
  sc_tc (sc_s_dup dX2_takeFault_1) (
  sc_tc (sc_s_get dX2_takeFault_2 (by decide) (by decide) kF_2_101) (
  sc_tc (sc_s_iconst dX2_takeFault_5 (by decide)) (
  sc_tc (sc_s_iadd dX2_takeFault_6) (
  sc_tc (sc_s_putI dX2_takeFault_7 (Or.inr (Or.inl rfl)) (by decide) rfl rfl (by decide +kernel) kF_2_101) (
  sc_tc (sc_s_aload_n dX2_takeFault_10 rfl) (
  sc_tc (sc_s_aload_n dX2_takeFault_11 rfl) (
  sc_tc (sc_s_getN dX2_takeFault_12 (by decide) (by decide) kN_2_136) (
  sc_tc (sc_s_putI dX2_takeFault_15 (Or.inr (Or.inl rfl)) (by decide) rfl rfl (by decide +kernel) kF_2_104) (
  sc_tc (sc_s_aload_n dX2_takeFault_18 rfl) (
  sc_tc (sc_s_aload_n dX2_takeFault_19 rfl) (
  sc_tc (sc_s_getN dX2_takeFault_20 (by decide) (by decide) kN_2_83) (
  sc_tc (sc_s_putI dX2_takeFault_23 (Or.inr (Or.inl rfl)) (by decide) rfl rfl (by decide +kernel) kF_2_107) (
  sc_tc (sc_s_aload_n dX2_takeFault_26 rfl) (
  sc_tc (sc_s_iconst dX2_takeFault_27 (by decide)) (
  sc_tc (sc_s_inv dX2_takeFault_28 mo_14 (by decide) rfl kM_2_59 kI_14 kL_14) (
  sc_tc (sc_s_aload_n dX2_takeFault_31 rfl) (
  sc_tc (sc_s_aload_n dX2_takeFault_32 rfl) (
  sc_tc (sc_s_get dX2_takeFault_33 (by decide) (by decide) kF_2_71) (
  sc_tc (sc_s_putI dX2_takeFault_36 (Or.inr (Or.inl rfl)) (by decide) rfl rfl (by decide +kernel) kF_2_63) (
  sc_tc (sc_s_retV dX2_takeFault_39 rfl) ( trivial))))))))))))))))))))))
set_option maxRecDepth 100000 in
set_option maxHeartbeats 4000000 in
theorem ts_X2_retire : sc_TS yX2_retire cX2_retire 3 none st_X2_retire :=
  sc_tc (sc_s_aload_n dX2_retire_0 rfl) (
  sc_tc (sc_s_getN dX2_retire_1 (by decide) (by decide) kN_2_149) (
  sc_tc (sc_s_getN dX2_retire_4 (by decide) (by decide) kN_2_152) (
  sc_tc (sc_s_istore_n dX2_retire_7 rfl (by decide)) (
  sc_tc (sc_s_aload_n dX2_retire_8 rfl) (
  sc_tc (sc_s_iload_n dX2_retire_9 rfl) (
  sc_tc (sc_s_invN dX2_retire_10 mo_2 (by decide) rfl kG_2_155 kI_2 kL_2) (
  sc_tc (sc_s_if_eq dX2_retire_13 (by decide)) (
  sc_tc (sc_s_aload_n dX2_retire_16 rfl) (
  sc_tc (sc_s_get dX2_retire_17 (by decide) (by decide) kF_2_26) (
  sc_tc (sc_s_iload_n dX2_retire_20 rfl) (
  sc_tc (sc_s_aload_n dX2_retire_21 rfl) (
  sc_tc (sc_s_getN dX2_retire_22 (by decide) (by decide) kN_2_158) (
  sc_tc (sc_s_iastore dX2_retire_25) (
  sc_tc (sc_s_aload_n dX2_retire_26 rfl) (
  sc_tc (sc_s_get dX2_retire_27 (by decide) (by decide) kF_2_41) (
  sc_tc (sc_s_aload_n dX2_retire_30 rfl) (
  sc_tc (sc_s_get dX2_retire_31 (by decide) (by decide) kF_2_74) (
  sc_tc (sc_s_bipush dX2_retire_34 (by decide)) (
  sc_tc (sc_s_irem dX2_retire_36) (
  sc_tc (sc_s_aload_n dX2_retire_37 rfl) (
  sc_tc (sc_s_getN dX2_retire_38 (by decide) (by decide) kN_2_83) (
  sc_tc (sc_s_iastore dX2_retire_41) (
  sc_tc (sc_s_aload_n dX2_retire_42 rfl) (
  sc_tc (sc_s_dup dX2_retire_43) (
  sc_tc (sc_s_get dX2_retire_44 (by decide) (by decide) kF_2_74) (
  sc_tc (sc_s_iconst dX2_retire_47 (by decide)) (
  sc_tc (sc_s_iadd dX2_retire_48) (
  sc_tc (sc_s_putI dX2_retire_49 (Or.inr (Or.inl rfl)) (by decide) rfl rfl (by decide +kernel) kF_2_74) (
  sc_tc (sc_s_aload_n dX2_retire_52 rfl) (
  sc_tc (sc_s_iconst dX2_retire_53 (by decide)) (
  sc_tc (sc_s_putZN dX2_retire_54 (Or.inl rfl) (by decide) rfl rfl (by decide +kernel) kN_2_80) (
  sc_tc (sc_s_retV dX2_retire_57 rfl) ( trivial)))))))))))))))))))))))))))))))))
set_option maxRecDepth 100000 in
set_option maxHeartbeats 4000000 in
theorem ts_X2_leaveEndsCycle : sc_TS yX2_leaveEndsCycle cX2_leaveEndsCycle 2 (some .boolean) st_X2_leaveEndsCycle :=
  sc_tc (sc_s_aload_n dX2_leaveEndsCycle_0 rfl) (
  sc_tc (sc_s_getN dX2_leaveEndsCycle_1 (by decide) (by decide) kN_2_80) (
  sc_tc (sc_s_if_ne dX2_leaveEndsCycle_4 (by decide)) (
  sc_tc (sc_s_iconst dX2_leaveEndsCycle_7 (by decide)) (
  sc_tc (sc_s_retZ dX2_leaveEndsCycle_8 rfl) (
  sc_tc (sc_s_aload_n dX2_leaveEndsCycle_9 rfl) (
  sc_tc (sc_s_getN dX2_leaveEndsCycle_10 (by decide) (by decide) kN_2_136) (
  sc_tc (sc_s_if_eq dX2_leaveEndsCycle_13 (by decide)) (
  sc_tc (sc_s_aload_n dX2_leaveEndsCycle_16 rfl) (
  sc_tc (sc_s_aload_n dX2_leaveEndsCycle_17 rfl) (
  sc_tc (sc_s_inv dX2_leaveEndsCycle_18 mo_17 (by decide) rfl kM_2_139 kI_17 kL_17) (
  sc_tc (sc_s_iconst dX2_leaveEndsCycle_21 (by decide)) (
  sc_tc (sc_s_retZ dX2_leaveEndsCycle_22 rfl) (
  sc_tc (sc_s_aload_n dX2_leaveEndsCycle_23 rfl) (
  sc_tc (sc_s_bipush dX2_leaveEndsCycle_24 (by decide)) (
  sc_tc (sc_s_invN dX2_leaveEndsCycle_26 mo_0 (by decide) rfl kG_2_142 kI_0 kL_0) (
  sc_tc (sc_s_if_eq dX2_leaveEndsCycle_29 (by decide)) (
  sc_tc (sc_s_aload_n dX2_leaveEndsCycle_32 rfl) (
  sc_tc (sc_s_iconst dX2_leaveEndsCycle_33 (by decide)) (
  sc_tc (sc_s_inv dX2_leaveEndsCycle_34 mo_14 (by decide) rfl kM_2_59 kI_14 kL_14) (
  sc_tc (sc_s_aload_n dX2_leaveEndsCycle_37 rfl) (
  sc_tc (sc_s_iconst dX2_leaveEndsCycle_38 (by decide)) (
  sc_tc (sc_s_putZ dX2_leaveEndsCycle_39 (Or.inr (Or.inl rfl)) (by decide) rfl rfl (by decide +kernel) kF_2_67) (
  sc_tc (sc_s_iconst dX2_leaveEndsCycle_42 (by decide)) (
  sc_tc (sc_s_retZ dX2_leaveEndsCycle_43 rfl) (
  sc_tc (sc_s_aload_n dX2_leaveEndsCycle_44 rfl) (
  sc_tc (sc_s_aload_n dX2_leaveEndsCycle_45 rfl) (
  sc_tc (sc_s_inv dX2_leaveEndsCycle_46 mo_18 (by decide) rfl kM_2_146 kI_18 kL_18) (
  sc_tc (sc_s_iconst dX2_leaveEndsCycle_49 (by decide)) (
  sc_tc (sc_s_retZ dX2_leaveEndsCycle_50 rfl) ( trivial))))))))))))))))))))))))))))))
set_option maxRecDepth 100000 in
set_option maxHeartbeats 4000000 in
theorem ts_X2_moveOnIfFree : sc_TS yX2_moveOnIfFree cX2_moveOnIfFree 3 none st_X2_moveOnIfFree :=
  sc_tc (sc_s_aload_n dX2_moveOnIfFree_0 rfl) (
  sc_tc (sc_s_get dX2_moveOnIfFree_1 (by decide) (by decide) kF_2_34) (
  sc_tc (sc_s_iload_n dX2_moveOnIfFree_4 rfl) (
  sc_tc (sc_s_iconst dX2_moveOnIfFree_5 (by decide)) (
  sc_tc (sc_s_iadd dX2_moveOnIfFree_6) (
  sc_tc (sc_s_fload dX2_moveOnIfFree_7) (
  sc_tc (sc_s_getN dX2_moveOnIfFree_8 (by decide) (by decide) kN_2_80) (
  sc_tc (sc_s_if_ne dX2_moveOnIfFree_11 (by decide)) (
  sc_tc (sc_s_aload_n dX2_moveOnIfFree_14 rfl) (
  sc_tc (sc_s_get dX2_moveOnIfFree_15 (by decide) (by decide) kF_2_34) (
  sc_tc (sc_s_iload_n dX2_moveOnIfFree_18 rfl) (
  sc_tc (sc_s_fload dX2_moveOnIfFree_19) (
  sc_tc (sc_s_astore_n dX2_moveOnIfFree_20 rfl (by decide)) (
  sc_tc (sc_s_aload_n dX2_moveOnIfFree_21 rfl) (
  sc_tc (sc_s_get dX2_moveOnIfFree_22 (by decide) (by decide) kF_2_34) (
  sc_tc (sc_s_iload_n dX2_moveOnIfFree_25 rfl) (
  sc_tc (sc_s_aload_n dX2_moveOnIfFree_26 rfl) (
  sc_tc (sc_s_get dX2_moveOnIfFree_27 (by decide) (by decide) kF_2_34) (
  sc_tc (sc_s_iload_n dX2_moveOnIfFree_30 rfl) (
  sc_tc (sc_s_iconst dX2_moveOnIfFree_31 (by decide)) (
  sc_tc (sc_s_iadd dX2_moveOnIfFree_32) (
  sc_tc (sc_s_fload dX2_moveOnIfFree_33) (
  sc_tc (sc_s_fstore dX2_moveOnIfFree_34) (
  sc_tc (sc_s_aload_n dX2_moveOnIfFree_35 rfl) (
  sc_tc (sc_s_get dX2_moveOnIfFree_36 (by decide) (by decide) kF_2_34) (
  sc_tc (sc_s_iload_n dX2_moveOnIfFree_39 rfl) (
  sc_tc (sc_s_iconst dX2_moveOnIfFree_40 (by decide)) (
  sc_tc (sc_s_iadd dX2_moveOnIfFree_41) (
  sc_tc (sc_s_aload_n dX2_moveOnIfFree_42 rfl) (
  sc_tc (sc_s_fstore dX2_moveOnIfFree_43) (
  sc_tc (sc_s_retV dX2_moveOnIfFree_44 rfl) ( trivial)))))))))))))))))))))))))))))))
set_option maxRecDepth 100000 in
set_option maxHeartbeats 4000000 in
theorem ts_X2_passMemory : sc_TS yX2_passMemory cX2_passMemory 2 none st_X2_passMemory :=
  sc_tc (sc_s_aload_n dX2_passMemory_0 rfl) (
  sc_tc (sc_s_bipush dX2_passMemory_1 (by decide)) (
  sc_tc (sc_s_invN dX2_passMemory_3 mo_0 (by decide) rfl kG_2_142 kI_0 kL_0) (
  sc_tc (sc_s_if_eq dX2_passMemory_6 (by decide)) (
  sc_tc (sc_s_aload_n dX2_passMemory_9 rfl) (
  sc_tc (sc_s_aload_n dX2_passMemory_10 rfl) (
  sc_tc (sc_s_get dX2_passMemory_11 (by decide) (by decide) kF_2_22) (
  sc_tc (sc_s_aload_n dX2_passMemory_14 rfl) (
  sc_tc (sc_s_getN dX2_passMemory_15 (by decide) (by decide) kN_2_161) (
  sc_tc (sc_s_iaload dX2_passMemory_18) (
  sc_tc (sc_s_putIN dX2_passMemory_19 (Or.inl rfl) (by decide) rfl rfl (by decide +kernel) kN_2_158) (
  sc_tc (sc_s_goto dX2_passMemory_22 (by decide)) (
  sc_tc (sc_s_aload_n dX2_passMemory_25 rfl) (
  sc_tc (sc_s_bipush dX2_passMemory_26 (by decide)) (
  sc_tc (sc_s_invN dX2_passMemory_28 mo_0 (by decide) rfl kG_2_142 kI_0 kL_0) (
  sc_tc (sc_s_if_eq dX2_passMemory_31 (by decide)) (
  sc_tc (sc_s_aload_n dX2_passMemory_34 rfl) (
  sc_tc (sc_s_get dX2_passMemory_35 (by decide) (by decide) kF_2_22) (
  sc_tc (sc_s_aload_n dX2_passMemory_38 rfl) (
  sc_tc (sc_s_getN dX2_passMemory_39 (by decide) (by decide) kN_2_161) (
  sc_tc (sc_s_aload_n dX2_passMemory_42 rfl) (
  sc_tc (sc_s_getN dX2_passMemory_43 (by decide) (by decide) kN_2_158) (
  sc_tc (sc_s_iastore dX2_passMemory_46) (
  sc_tc (sc_s_aload_n dX2_passMemory_47 rfl) (
  sc_tc (sc_s_iconst dX2_passMemory_48 (by decide)) (
  sc_tc (sc_s_inv dX2_passMemory_49 mo_20 (by decide) rfl kM_2_130 kI_20 kL_20) (
  sc_tc (sc_s_retV dX2_passMemory_52 rfl) ( trivial)))))))))))))))))))))))))))
set_option maxRecDepth 100000 in
set_option maxHeartbeats 4000000 in
theorem ts_X2_needsLoadAhead : sc_TS yX2_needsLoadAhead cX2_needsLoadAhead 3 (some .boolean) st_X2_needsLoadAhead :=
  sc_tc (sc_s_aload_n dX2_needsLoadAhead_0 rfl) (
  sc_tc (sc_s_get dX2_needsLoadAhead_1 (by decide) (by decide) kF_2_34) (
  sc_tc (sc_s_iconst dX2_needsLoadAhead_4 (by decide)) (
  sc_tc (sc_s_fload dX2_needsLoadAhead_5) (
  sc_tc (sc_s_astore_n dX2_needsLoadAhead_6 rfl (by decide)) (
  sc_tc (sc_s_aload_n dX2_needsLoadAhead_7 rfl) (
  sc_tc (sc_s_bipush dX2_needsLoadAhead_8 (by decide)) (
  sc_tc (sc_s_invN dX2_needsLoadAhead_10 mo_0 (by decide) rfl kG_2_142 kI_0 kL_0) (
  sc_tc (sc_s_if_ne dX2_needsLoadAhead_13 (by decide)) (
  sc_tc (sc_s_iconst dX2_needsLoadAhead_16 (by decide)) (
  sc_tc (sc_s_retZ dX2_needsLoadAhead_17 rfl) (
  sc_tc (sc_s_aload_n dX2_needsLoadAhead_18 rfl) (
  sc_tc (sc_s_invN dX2_needsLoadAhead_19 mo_5 (by decide) rfl kG_2_178 kI_5 kL_5) (
  sc_tc (sc_s_if_eq dX2_needsLoadAhead_22 (by decide)) (
  sc_tc (sc_s_aload_n dX2_needsLoadAhead_25 rfl) (
  sc_tc (sc_s_aload_n dX2_needsLoadAhead_26 rfl) (
  sc_tc (sc_s_getN dX2_needsLoadAhead_27 (by decide) (by decide) kN_2_182) (
  sc_tc (sc_s_invN dX2_needsLoadAhead_30 mo_2 (by decide) rfl kG_2_155 kI_2 kL_2) (
  sc_tc (sc_s_if_ne dX2_needsLoadAhead_33 (by decide)) (
  sc_tc (sc_s_aload_n dX2_needsLoadAhead_36 rfl) (
  sc_tc (sc_s_invN dX2_needsLoadAhead_37 mo_4 (by decide) rfl kG_2_185 kI_4 kL_4) (
  sc_tc (sc_s_if_eq dX2_needsLoadAhead_40 (by decide)) (
  sc_tc (sc_s_aload_n dX2_needsLoadAhead_43 rfl) (
  sc_tc (sc_s_aload_n dX2_needsLoadAhead_44 rfl) (
  sc_tc (sc_s_getN dX2_needsLoadAhead_45 (by decide) (by decide) kN_2_188) (
  sc_tc (sc_s_invN dX2_needsLoadAhead_48 mo_2 (by decide) rfl kG_2_155 kI_2 kL_2) (
  sc_tc (sc_s_if_eq dX2_needsLoadAhead_51 (by decide)) (
  sc_tc (sc_s_iconst dX2_needsLoadAhead_54 (by decide)) (
  sc_tc (sc_s_goto dX2_needsLoadAhead_55 (by decide)) (
  sc_tc (sc_s_iconst dX2_needsLoadAhead_58 (by decide)) (
  sc_tc (sc_s_retZ dX2_needsLoadAhead_59 rfl) ( trivial)))))))))))))))))))))))))))))))
set_option maxRecDepth 100000 in
set_option maxHeartbeats 4000000 in
theorem ts_X2_handedOn : sc_TS yX2_handedOn cX2_handedOn 3 (some .int) st_X2_handedOn :=
  sc_tc (sc_s_aload_n dX2_handedOn_0 rfl) (
  sc_tc (sc_s_get dX2_handedOn_1 (by decide) (by decide) kF_2_34) (
  sc_tc (sc_s_iconst dX2_handedOn_4 (by decide)) (
  sc_tc (sc_s_fload dX2_handedOn_5) (
  sc_tc (sc_s_astore_n dX2_handedOn_6 rfl (by decide)) (
  sc_tc (sc_s_aload_n dX2_handedOn_7 rfl) (
  sc_tc (sc_s_iload_n dX2_handedOn_8 rfl) (
  sc_tc (sc_s_invN dX2_handedOn_9 mo_2 (by decide) rfl kG_2_155 kI_2 kL_2) (
  sc_tc (sc_s_if_eq dX2_handedOn_12 (by decide)) (
  sc_tc (sc_s_aload_n dX2_handedOn_15 rfl) (
  sc_tc (sc_s_getN dX2_handedOn_16 (by decide) (by decide) kN_2_158) (
  sc_tc (sc_s_goto dX2_handedOn_19 (by decide)) (
  sc_tc (sc_s_aload_n dX2_handedOn_22 rfl) (
  sc_tc (sc_s_get dX2_handedOn_23 (by decide) (by decide) kF_2_26) (
  sc_tc (sc_s_iload_n dX2_handedOn_26 rfl) (
  sc_tc (sc_s_iaload dX2_handedOn_27) (
  sc_tc (sc_s_retI dX2_handedOn_28 rfl) ( trivial)))))))))))))))))
set_option maxRecDepth 100000 in
set_option maxHeartbeats 4000000 in
theorem ts_X2_isWord : sc_TS yX2_isWord cX2_isWord 1 (some .boolean) st_X2_isWord :=
  sc_tc (sc_s_iload_n dX2_isWord_0 rfl) (
  sc_tc (sc_s_if_lt dX2_isWord_1 (by decide)) (
  sc_tc (sc_s_iload_n dX2_isWord_4 rfl) (
  sc_tc (sc_s_bipush dX2_isWord_5 (by decide)) (
  sc_tc (sc_s_icmp_ge dX2_isWord_7 (by decide)) (
  sc_tc (sc_s_iconst dX2_isWord_10 (by decide)) (
  sc_tc (sc_s_goto dX2_isWord_11 (by decide)) (
  sc_tc (sc_s_iconst dX2_isWord_14 (by decide)) (
  sc_tc (sc_s_retZ dX2_isWord_15 rfl) ( trivial)))))))))
set_option maxRecDepth 100000 in
set_option maxHeartbeats 4000000 in
theorem ts_X2_faultOf : sc_TS yX2_faultOf cX2_faultOf 3 (some .int) st_X2_faultOf :=
  sc_tc (sc_s_aload_n dX2_faultOf_0 rfl) (
  sc_tc (sc_s_getN dX2_faultOf_1 (by decide) (by decide) kN_2_209) (
  sc_tc (sc_s_bipush dX2_faultOf_4 (by decide)) (
  sc_tc (sc_s_icmp_ne dX2_faultOf_6 (by decide)) (
  sc_tc (sc_s_iconst dX2_faultOf_9 (by decide)) (
  sc_tc (sc_s_retI dX2_faultOf_10 rfl) (
  sc_tc (sc_s_aload_n dX2_faultOf_11 rfl) (
  sc_tc (sc_s_invN dX2_faultOf_12 mo_6 (by decide) rfl kG_2_203 kI_6 kL_6) (
  sc_tc (sc_s_if_eq dX2_faultOf_15 (by decide)) (
  sc_tc (sc_s_iload_n dX2_faultOf_18 rfl) (
  sc_tc (sc_s_aload_n dX2_faultOf_19 rfl) (
  sc_tc (sc_s_getN dX2_faultOf_20 (by decide) (by decide) kN_2_206) (
  sc_tc (sc_s_iadd dX2_faultOf_23) (
  sc_tc (sc_s_ins dX2_faultOf_24 mo_24 kM_2_231 kS_24) (
  sc_tc (sc_s_if_ne dX2_faultOf_27 (by decide)) (
  sc_tc (sc_s_iconst dX2_faultOf_30 (by decide)) (
  sc_tc (sc_s_retI dX2_faultOf_31 rfl) (
  sc_tc (sc_s_aload_n dX2_faultOf_32 rfl) (
  sc_tc (sc_s_getN dX2_faultOf_33 (by decide) (by decide) kN_2_209) (
  sc_tc (sc_s_bipush dX2_faultOf_36 (by decide)) (
  sc_tc (sc_s_icmp_ne dX2_faultOf_38 (by decide)) (
  sc_tc (sc_s_iload_n dX2_faultOf_41 rfl) (
  sc_tc (sc_s_if_ne dX2_faultOf_42 (by decide)) (
  sc_tc (sc_s_iconst dX2_faultOf_45 (by decide)) (
  sc_tc (sc_s_goto dX2_faultOf_46 (by decide)) (
  sc_tc (sc_s_iconst dX2_faultOf_49 (by decide)) (
  sc_tc (sc_s_retI dX2_faultOf_50 rfl) ( trivial)))))))))))))))))))))))))))
set_option maxRecDepth 100000 in
set_option maxHeartbeats 4000000 in
theorem ts_X2_valueOf : sc_TS yX2_valueOf cX2_valueOf 3 (some .int) st_X2_valueOf :=
  sc_tc (sc_s_aload_n dX2_valueOf_0 rfl) (
  sc_tc (sc_s_getN dX2_valueOf_1 (by decide) (by decide) kN_2_149) (
  sc_tc (sc_s_getN dX2_valueOf_4 (by decide) (by decide) kN_2_209) (
  sc_tc (sc_s_sw dX2_valueOf_7 (by decide) (by decide) (by decide +kernel)) (
  sc_tc (sc_s_iload_n dX2_valueOf_88 rfl) (
  sc_tc (sc_s_iload_n dX2_valueOf_89 rfl) (
  sc_tc (sc_s_iadd dX2_valueOf_90) (
  sc_tc (sc_s_retI dX2_valueOf_91 rfl) (
  sc_tc (sc_s_iload_n dX2_valueOf_92 rfl) (
  sc_tc (sc_s_iload_n dX2_valueOf_93 rfl) (
  sc_tc (sc_s_isub dX2_valueOf_94) (
  sc_tc (sc_s_retI dX2_valueOf_95 rfl) (
  sc_tc (sc_s_iload_n dX2_valueOf_96 rfl) (
  sc_tc (sc_s_iload_n dX2_valueOf_97 rfl) (
  sc_tc (sc_s_iand dX2_valueOf_98) (
  sc_tc (sc_s_retI dX2_valueOf_99 rfl) (
  sc_tc (sc_s_iload_n dX2_valueOf_100 rfl) (
  sc_tc (sc_s_iload_n dX2_valueOf_101 rfl) (
  sc_tc (sc_s_ior dX2_valueOf_102) (
  sc_tc (sc_s_retI dX2_valueOf_103 rfl) (
  sc_tc (sc_s_iload_n dX2_valueOf_104 rfl) (
  sc_tc (sc_s_iload_n dX2_valueOf_105 rfl) (
  sc_tc (sc_s_ixor dX2_valueOf_106) (
  sc_tc (sc_s_retI dX2_valueOf_107 rfl) (
  sc_tc (sc_s_iload_n dX2_valueOf_108 rfl) (
  sc_tc (sc_s_iload_n dX2_valueOf_109 rfl) (
  sc_tc (sc_s_bipush dX2_valueOf_110 (by decide)) (
  sc_tc (sc_s_iand dX2_valueOf_112) (
  sc_tc (sc_s_ishl dX2_valueOf_113) (
  sc_tc (sc_s_retI dX2_valueOf_114 rfl) (
  sc_tc (sc_s_iload_n dX2_valueOf_115 rfl) (
  sc_tc (sc_s_iload_n dX2_valueOf_116 rfl) (
  sc_tc (sc_s_icmp_ge dX2_valueOf_117 (by decide)) (
  sc_tc (sc_s_iconst dX2_valueOf_120 (by decide)) (
  sc_tc (sc_s_goto dX2_valueOf_121 (by decide)) (
  sc_tc (sc_s_iconst dX2_valueOf_124 (by decide)) (
  sc_tc (sc_s_retI dX2_valueOf_125 rfl) (
  sc_tc (sc_s_iload_n dX2_valueOf_126 rfl) (
  sc_tc (sc_s_iload_n dX2_valueOf_127 rfl) (
  sc_tc (sc_s_imul dX2_valueOf_128) (
  sc_tc (sc_s_retI dX2_valueOf_129 rfl) (
  sc_tc (sc_s_iload_n dX2_valueOf_130 rfl) (
  sc_tc (sc_s_if_ne dX2_valueOf_131 (by decide)) (
  sc_tc (sc_s_iconst dX2_valueOf_134 (by decide)) (
  sc_tc (sc_s_goto dX2_valueOf_135 (by decide)) (
  sc_tc (sc_s_iload_n dX2_valueOf_138 rfl) (
  sc_tc (sc_s_iload_n dX2_valueOf_139 rfl) (
  sc_tc (sc_s_idiv dX2_valueOf_140) (
  sc_tc (sc_s_retI dX2_valueOf_141 rfl) (
  sc_tc (sc_s_iload_n dX2_valueOf_142 rfl) (
  sc_tc (sc_s_aload_n dX2_valueOf_143 rfl) (
  sc_tc (sc_s_getN dX2_valueOf_144 (by decide) (by decide) kN_2_149) (
  sc_tc (sc_s_getN dX2_valueOf_147 (by decide) (by decide) kN_2_206) (
  sc_tc (sc_s_iadd dX2_valueOf_150) (
  sc_tc (sc_s_retI dX2_valueOf_151 rfl) (
  sc_tc (sc_s_aload_n dX2_valueOf_152 rfl) (
  sc_tc (sc_s_getN dX2_valueOf_153 (by decide) (by decide) kN_2_149) (
  sc_tc (sc_s_getN dX2_valueOf_156 (by decide) (by decide) kN_2_206) (
  sc_tc (sc_s_retI dX2_valueOf_159 rfl) (
  sc_tc (sc_s_iload_n dX2_valueOf_160 rfl) (
  sc_tc (sc_s_retI dX2_valueOf_161 rfl) (
  sc_tc (sc_s_aload_n dX2_valueOf_162 rfl) (
  sc_tc (sc_s_getN dX2_valueOf_163 (by decide) (by decide) kN_2_83) (
  sc_tc (sc_s_iconst dX2_valueOf_166 (by decide)) (
  sc_tc (sc_s_iadd dX2_valueOf_167) (
  sc_tc (sc_s_retI dX2_valueOf_168 rfl) (
  sc_tc (sc_s_aload_n dX2_valueOf_169 rfl) (
  sc_tc (sc_s_getN dX2_valueOf_170 (by decide) (by decide) kN_2_83) (
  sc_tc (sc_s_iconst dX2_valueOf_173 (by decide)) (
  sc_tc (sc_s_iadd dX2_valueOf_174) (
  sc_tc (sc_s_retI dX2_valueOf_175 rfl) (
  sc_tc (sc_s_iconst dX2_valueOf_176 (by decide)) (
  sc_tc (sc_s_retI dX2_valueOf_177 rfl) ( trivial)))))))))))))))))))))))))))))))))))))))))))))))))))))))))))))))))))))))))
set_option maxRecDepth 100000 in
set_option maxHeartbeats 4000000 in
theorem ts_X2_goesElsewhere : sc_TS yX2_goesElsewhere cX2_goesElsewhere 3 (some .boolean) st_X2_goesElsewhere :=
  sc_tc (sc_s_iload_n dX2_goesElsewhere_0 rfl) (
  sc_tc (sc_s_sw dX2_goesElsewhere_1 (by decide) (by decide) (by decide +kernel)) (
  sc_tc (sc_s_iload_n dX2_goesElsewhere_32 rfl) (
  sc_tc (sc_s_iload_n dX2_goesElsewhere_33 rfl) (
  sc_tc (sc_s_icmp_ne dX2_goesElsewhere_34 (by decide)) (
  sc_tc (sc_s_iconst dX2_goesElsewhere_37 (by decide)) (
  sc_tc (sc_s_goto dX2_goesElsewhere_38 (by decide)) (
  sc_tc (sc_s_iconst dX2_goesElsewhere_41 (by decide)) (
  sc_tc (sc_s_retZ dX2_goesElsewhere_42 rfl) (
  sc_tc (sc_s_iload_n dX2_goesElsewhere_43 rfl) (
  sc_tc (sc_s_iload_n dX2_goesElsewhere_44 rfl) (
  sc_tc (sc_s_icmp_eq dX2_goesElsewhere_45 (by decide)) (
  sc_tc (sc_s_iconst dX2_goesElsewhere_48 (by decide)) (
  sc_tc (sc_s_goto dX2_goesElsewhere_49 (by decide)) (
  sc_tc (sc_s_iconst dX2_goesElsewhere_52 (by decide)) (
  sc_tc (sc_s_retZ dX2_goesElsewhere_53 rfl) (
  sc_tc (sc_s_iconst dX2_goesElsewhere_54 (by decide)) (
  sc_tc (sc_s_retZ dX2_goesElsewhere_55 rfl) (
  sc_tc (sc_s_iconst dX2_goesElsewhere_56 (by decide)) (
  sc_tc (sc_s_retZ dX2_goesElsewhere_57 rfl) (
  sc_tc (sc_s_iconst dX2_goesElsewhere_58 (by decide)) (
  sc_tc (sc_s_retZ dX2_goesElsewhere_59 rfl) ( trivial))))))))))))))))))))))
set_option maxRecDepth 100000 in
set_option maxHeartbeats 4000000 in
theorem ts_J9_floorMod_7cf53 : sc_TS yJ9_floorMod_7cf53 cJ9_floorMod_7cf53 3 (some .int) st_J9_floorMod_7cf53 :=
  sc_tc (sc_s_iload_n dJ9_floorMod_7cf53_0 rfl) (
  sc_tc (sc_s_iload_n dJ9_floorMod_7cf53_1 rfl) (
  sc_tc (sc_s_irem dJ9_floorMod_7cf53_2) (
  sc_tc (sc_s_istore_n dJ9_floorMod_7cf53_3 rfl (by decide)) (
  sc_tc (sc_s_iload_n dJ9_floorMod_7cf53_4 rfl) (
  sc_tc (sc_s_iload_n dJ9_floorMod_7cf53_5 rfl) (
  sc_tc (sc_s_ixor dJ9_floorMod_7cf53_6) (
  sc_tc (sc_s_if_ge dJ9_floorMod_7cf53_7 (by decide)) (
  sc_tc (sc_s_iload_n dJ9_floorMod_7cf53_10 rfl) (
  sc_tc (sc_s_if_eq dJ9_floorMod_7cf53_11 (by decide)) (
  sc_tc (sc_s_iload_n dJ9_floorMod_7cf53_14 rfl) (
  sc_tc (sc_s_iload_n dJ9_floorMod_7cf53_15 rfl) (
  sc_tc (sc_s_iadd dJ9_floorMod_7cf53_16) (
  sc_tc (sc_s_retI dJ9_floorMod_7cf53_17 rfl) (
  sc_tc (sc_s_iload_n dJ9_floorMod_7cf53_18 rfl) (
  sc_tc (sc_s_retI dJ9_floorMod_7cf53_19 rfl) ( trivial))))))))))))))))
set_option maxRecDepth 100000 in
set_option maxHeartbeats 4000000 in
theorem ts_X2_learn : sc_TS yX2_learn cX2_learn 5 none st_X2_learn :=
  sc_tc (sc_s_iload_n dX2_learn_0 rfl) (
  sc_tc (sc_s_bipush dX2_learn_1 (by decide)) (
  sc_tc (sc_s_ins dX2_learn_3 mo_28 kM_2_234 kS_28) (
  sc_tc (sc_s_istore_n dX2_learn_6 rfl (by decide)) (
  sc_tc (sc_s_aload_n dX2_learn_7 rfl) (
  sc_tc (sc_s_get dX2_learn_8 (by decide) (by decide) kF_2_29) (
  sc_tc (sc_s_iload_n dX2_learn_11 rfl) (
  sc_tc (sc_s_iaload dX2_learn_12) (
  sc_tc (sc_s_iload_n dX2_learn_13 rfl) (
  sc_tc (sc_s_if_eq dX2_learn_14 (by decide)) (
  sc_tc (sc_s_iconst dX2_learn_17 (by decide)) (
  sc_tc (sc_s_goto dX2_learn_18 (by decide)) (
  sc_tc (sc_s_iconst dX2_learn_21 (by decide)) (
  sc_tc (sc_s_iadd dX2_learn_22) (
  sc_tc (sc_s_istore dX2_learn_23 (by decide)) (
  sc_tc (sc_s_aload_n dX2_learn_25 rfl) (
  sc_tc (sc_s_get dX2_learn_26 (by decide) (by decide) kF_2_29) (
  sc_tc (sc_s_iload_n dX2_learn_29 rfl) (
  sc_tc (sc_s_iconst dX2_learn_30 (by decide)) (
  sc_tc (sc_s_iconst dX2_learn_31 (by decide)) (
  sc_tc (sc_s_iload dX2_learn_32) (
  sc_tc (sc_s_ins dX2_learn_34 mo_71 kM_2_86 kS_71) (
  sc_tc (sc_s_ins dX2_learn_37 mo_70 kM_2_237 kS_70) (
  sc_tc (sc_s_iastore dX2_learn_40) (
  sc_tc (sc_s_retV dX2_learn_41 rfl) ( trivial)))))))))))))))))))))))))
set_option maxRecDepth 100000 in
set_option maxHeartbeats 4000000 in
theorem ts_X2_target : sc_TS yX2_target cX2_target 3 (some .int) st_X2_target :=
  sc_tc (sc_s_aload_n dX2_target_0 rfl) (
  sc_tc (sc_s_getN dX2_target_1 (by decide) (by decide) kN_2_149) (
  sc_tc (sc_s_getN dX2_target_4 (by decide) (by decide) kN_2_209) (
  sc_tc (sc_s_bipush dX2_target_7 (by decide)) (
  sc_tc (sc_s_icmp_ne dX2_target_9 (by decide)) (
  sc_tc (sc_s_iload_n dX2_target_12 rfl) (
  sc_tc (sc_s_goto dX2_target_13 (by decide)) (
  sc_tc (sc_s_aload_n dX2_target_16 rfl) (
  sc_tc (sc_s_getN dX2_target_17 (by decide) (by decide) kN_2_83) (
  sc_tc (sc_s_istore_n dX2_target_20 rfl (by decide)) (
  sc_tc (sc_s_iload_n dX2_target_21 rfl) (
  sc_tc (sc_s_aload_n dX2_target_22 rfl) (
  sc_tc (sc_s_getN dX2_target_23 (by decide) (by decide) kN_2_149) (
  sc_tc (sc_s_getN dX2_target_26 (by decide) (by decide) kN_2_206) (
  sc_tc (sc_s_iadd dX2_target_29) (
  sc_tc (sc_s_retI dX2_target_30 rfl) ( trivial))))))))))))))))
set_option maxRecDepth 100000 in
set_option maxHeartbeats 4000000 in
theorem ts_X2_holdAgainstGuess : sc_TS yX2_holdAgainstGuess cX2_holdAgainstGuess 3 none st_X2_holdAgainstGuess :=
  sc_tc (sc_s_iload_n dX2_holdAgainstGuess_0 rfl) (
  sc_tc (sc_s_aload_n dX2_holdAgainstGuess_1 rfl) (
  sc_tc (sc_s_getN dX2_holdAgainstGuess_2 (by decide) (by decide) kN_2_240) (
  sc_tc (sc_s_icmp_eq dX2_holdAgainstGuess_5 (by decide)) (
  sc_tc (sc_s_aload_n dX2_holdAgainstGuess_8 rfl) (
  sc_tc (sc_s_dup dX2_holdAgainstGuess_9) (
  sc_tc (sc_s_get dX2_holdAgainstGuess_10 (by decide) (by decide) kF_2_98) (
  sc_tc (sc_s_iconst dX2_holdAgainstGuess_13 (by decide)) (
  sc_tc (sc_s_iadd dX2_holdAgainstGuess_14) (
  sc_tc (sc_s_putI dX2_holdAgainstGuess_15 (Or.inr (Or.inl rfl)) (by decide) rfl rfl (by decide +kernel) kF_2_98) (
  sc_tc (sc_s_aload_n dX2_holdAgainstGuess_18 rfl) (
  sc_tc (sc_s_iconst dX2_holdAgainstGuess_19 (by decide)) (
  sc_tc (sc_s_inv dX2_holdAgainstGuess_20 mo_14 (by decide) rfl kM_2_59 kI_14 kL_14) (
  sc_tc (sc_s_aload_n dX2_holdAgainstGuess_23 rfl) (
  sc_tc (sc_s_iload_n dX2_holdAgainstGuess_24 rfl) (
  sc_tc (sc_s_putI dX2_holdAgainstGuess_25 (Or.inr (Or.inl rfl)) (by decide) rfl rfl (by decide +kernel) kF_2_63) (
  sc_tc (sc_s_retV dX2_holdAgainstGuess_28 rfl) ( trivial)))))))))))))))))
set_option maxRecDepth 100000 in
set_option maxHeartbeats 4000000 in
theorem ts_X2_finishWork : sc_TS yX2_finishWork cX2_finishWork 5 none st_X2_finishWork :=
  sc_tc (sc_s_aload_n dX2_finishWork_0 rfl) (
  sc_tc (sc_s_aload_n dX2_finishWork_1 rfl) (
  sc_tc (sc_s_getN dX2_finishWork_2 (by decide) (by decide) kN_2_149) (
  sc_tc (sc_s_getN dX2_finishWork_5 (by decide) (by decide) kN_2_182) (
  sc_tc (sc_s_inv dX2_finishWork_8 mo_23 (by decide) rfl kM_2_191 kI_23 kL_23) (
  sc_tc (sc_s_istore_n dX2_finishWork_11 rfl (by decide)) (
  sc_tc (sc_s_aload_n dX2_finishWork_12 rfl) (
  sc_tc (sc_s_aload_n dX2_finishWork_13 rfl) (
  sc_tc (sc_s_getN dX2_finishWork_14 (by decide) (by decide) kN_2_149) (
  sc_tc (sc_s_getN dX2_finishWork_17 (by decide) (by decide) kN_2_188) (
  sc_tc (sc_s_inv dX2_finishWork_20 mo_23 (by decide) rfl kM_2_191 kI_23 kL_23) (
  sc_tc (sc_s_istore_n dX2_finishWork_23 rfl (by decide)) (
  sc_tc (sc_s_aload_n dX2_finishWork_24 rfl) (
  sc_tc (sc_s_getN dX2_finishWork_25 (by decide) (by decide) kN_2_136) (
  sc_tc (sc_s_if_ne dX2_finishWork_28 (by decide)) (
  sc_tc (sc_s_aload_n dX2_finishWork_31 rfl) (
  sc_tc (sc_s_aload_n dX2_finishWork_32 rfl) (
  sc_tc (sc_s_getN dX2_finishWork_33 (by decide) (by decide) kN_2_149) (
  sc_tc (sc_s_iload_n dX2_finishWork_36 rfl) (
  sc_tc (sc_s_iload_n dX2_finishWork_37 rfl) (
  sc_tc (sc_s_ins dX2_finishWork_38 mo_25 kM_2_195 kS_25) (
  sc_tc (sc_s_putIN dX2_finishWork_41 (Or.inl rfl) (by decide) rfl rfl (by decide +kernel) kN_2_136) (
  sc_tc (sc_s_aload_n dX2_finishWork_44 rfl) (
  sc_tc (sc_s_getN dX2_finishWork_45 (by decide) (by decide) kN_2_136) (
  sc_tc (sc_s_if_eq dX2_finishWork_48 (by decide)) (
  sc_tc (sc_s_retV dX2_finishWork_51 rfl) (
  sc_tc (sc_s_aload_n dX2_finishWork_52 rfl) (
  sc_tc (sc_s_aload_n dX2_finishWork_53 rfl) (
  sc_tc (sc_s_iload_n dX2_finishWork_54 rfl) (
  sc_tc (sc_s_iload_n dX2_finishWork_55 rfl) (
  sc_tc (sc_s_ins dX2_finishWork_56 mo_26 kM_2_199 kS_26) (
  sc_tc (sc_s_putIN dX2_finishWork_59 (Or.inl rfl) (by decide) rfl rfl (by decide +kernel) kN_2_158) (
  sc_tc (sc_s_aload_n dX2_finishWork_62 rfl) (
  sc_tc (sc_s_aload_n dX2_finishWork_63 rfl) (
  sc_tc (sc_s_getN dX2_finishWork_64 (by decide) (by decide) kN_2_149) (
  sc_tc (sc_s_invN dX2_finishWork_67 mo_6 (by decide) rfl kG_2_203 kI_6 kL_6) (
  sc_tc (sc_s_if_eq dX2_finishWork_70 (by decide)) (
  sc_tc (sc_s_iload_n dX2_finishWork_73 rfl) (
  sc_tc (sc_s_aload_n dX2_finishWork_74 rfl) (
  sc_tc (sc_s_getN dX2_finishWork_75 (by decide) (by decide) kN_2_149) (
  sc_tc (sc_s_getN dX2_finishWork_78 (by decide) (by decide) kN_2_206) (
  sc_tc (sc_s_iadd dX2_finishWork_81) (
  sc_tc (sc_s_goto dX2_finishWork_82 (by decide)) (
  sc_tc (sc_s_iconst dX2_finishWork_85 (by decide)) (
  sc_tc (sc_s_putIN dX2_finishWork_86 (Or.inl rfl) (by decide) rfl rfl (by decide +kernel) kN_2_161) (
  sc_tc (sc_s_aload_n dX2_finishWork_89 rfl) (
  sc_tc (sc_s_getN dX2_finishWork_90 (by decide) (by decide) kN_2_149) (
  sc_tc (sc_s_getN dX2_finishWork_93 (by decide) (by decide) kN_2_209) (
  sc_tc (sc_s_iload_n dX2_finishWork_96 rfl) (
  sc_tc (sc_s_iload_n dX2_finishWork_97 rfl) (
  sc_tc (sc_s_ins dX2_finishWork_98 mo_27 kM_2_212 kS_27) (
  sc_tc (sc_s_istore dX2_finishWork_101 (by decide)) (
  sc_tc (sc_s_aload_n dX2_finishWork_103 rfl) (
  sc_tc (sc_s_getN dX2_finishWork_104 (by decide) (by decide) kN_2_149) (
  sc_tc (sc_s_invN dX2_finishWork_107 mo_3 (by decide) rfl kG_2_216 kI_3 kL_3) (
  sc_tc (sc_s_if_eq dX2_finishWork_110 (by decide)) (
  sc_tc (sc_s_aload_n dX2_finishWork_113 rfl) (
  sc_tc (sc_s_aload_n dX2_finishWork_114 rfl) (
  sc_tc (sc_s_getN dX2_finishWork_115 (by decide) (by decide) kN_2_83) (
  sc_tc (sc_s_iload dX2_finishWork_118) (
  sc_tc (sc_s_inv dX2_finishWork_120 mo_29 (by decide) rfl kM_2_219 kI_29 kL_29) (
  sc_tc (sc_s_aload_n dX2_finishWork_123 rfl) (
  sc_tc (sc_s_aload_n dX2_finishWork_124 rfl) (
  sc_tc (sc_s_iload dX2_finishWork_125) (
  sc_tc (sc_s_if_eq dX2_finishWork_127 (by decide)) (
  sc_tc (sc_s_aload_n dX2_finishWork_130 rfl) (
  sc_tc (sc_s_iload_n dX2_finishWork_131 rfl) (
  sc_tc (sc_s_ins dX2_finishWork_132 mo_30 kM_2_223 kS_30) (
  sc_tc (sc_s_goto dX2_finishWork_135 (by decide)) (
  sc_tc (sc_s_aload_n dX2_finishWork_138 rfl) (
  sc_tc (sc_s_getN dX2_finishWork_139 (by decide) (by decide) kN_2_83) (
  sc_tc (sc_s_iconst dX2_finishWork_142 (by decide)) (
  sc_tc (sc_s_iadd dX2_finishWork_143) (
  sc_tc (sc_s_inv dX2_finishWork_144 mo_31 (by decide) rfl kM_2_227 kI_31 kL_31) (
  sc_tc (sc_s_retV dX2_finishWork_147 rfl) ( trivial)))))))))))))))))))))))))))))))))))))))))))))))))))))))))))))))))))))))))))
set_option maxRecDepth 100000 in
set_option maxHeartbeats 4000000 in
theorem ts_X2_workInReached : sc_TS yX2_workInReached cX2_workInReached 2 none st_X2_workInReached :=
  sc_tc (sc_s_aload_n dX2_workInReached_0 rfl) (
  sc_tc (sc_s_getN dX2_workInReached_1 (by decide) (by decide) kN_2_80) (
  sc_tc (sc_s_if_ne dX2_workInReached_4 (by decide)) (
  sc_tc (sc_s_retV dX2_workInReached_7 rfl) (
  sc_tc (sc_s_aload_n dX2_workInReached_8 rfl) (
  sc_tc (sc_s_aload_n dX2_workInReached_9 rfl) (
  sc_tc (sc_s_getN dX2_workInReached_10 (by decide) (by decide) kN_2_149) (
  sc_tc (sc_s_inv dX2_workInReached_13 mo_22 (by decide) rfl kM_2_164 kI_22 kL_22) (
  sc_tc (sc_s_if_eq dX2_workInReached_16 (by decide)) (
  sc_tc (sc_s_aload_n dX2_workInReached_19 rfl) (
  sc_tc (sc_s_dup dX2_workInReached_20) (
  sc_tc (sc_s_get dX2_workInReached_21 (by decide) (by decide) kF_2_95) (
  sc_tc (sc_s_iconst dX2_workInReached_24 (by decide)) (
  sc_tc (sc_s_iadd dX2_workInReached_25) (
  sc_tc (sc_s_putI dX2_workInReached_26 (Or.inr (Or.inl rfl)) (by decide) rfl rfl (by decide +kernel) kF_2_95) (
  sc_tc (sc_s_retV dX2_workInReached_29 rfl) (
  sc_tc (sc_s_aload_n dX2_workInReached_30 rfl) (
  sc_tc (sc_s_dup dX2_workInReached_31) (
  sc_tc (sc_s_getN dX2_workInReached_32 (by decide) (by decide) kN_2_168) (
  sc_tc (sc_s_iconst dX2_workInReached_35 (by decide)) (
  sc_tc (sc_s_iadd dX2_workInReached_36) (
  sc_tc (sc_s_putIN dX2_workInReached_37 (Or.inl rfl) (by decide) rfl rfl (by decide +kernel) kN_2_168) (
  sc_tc (sc_s_aload_n dX2_workInReached_40 rfl) (
  sc_tc (sc_s_getN dX2_workInReached_41 (by decide) (by decide) kN_2_168) (
  sc_tc (sc_s_aload_n dX2_workInReached_44 rfl) (
  sc_tc (sc_s_getN dX2_workInReached_45 (by decide) (by decide) kN_2_149) (
  sc_tc (sc_s_invN dX2_workInReached_48 mo_7 (by decide) rfl kG_2_171 kI_7 kL_7) (
  sc_tc (sc_s_icmp_ge dX2_workInReached_51 (by decide)) (
  sc_tc (sc_s_aload_n dX2_workInReached_54 rfl) (
  sc_tc (sc_s_dup dX2_workInReached_55) (
  sc_tc (sc_s_get dX2_workInReached_56 (by decide) (by decide) kF_2_95) (
  sc_tc (sc_s_iconst dX2_workInReached_59 (by decide)) (
  sc_tc (sc_s_iadd dX2_workInReached_60) (
  sc_tc (sc_s_putI dX2_workInReached_61 (Or.inr (Or.inl rfl)) (by decide) rfl rfl (by decide +kernel) kF_2_95) (
  sc_tc (sc_s_retV dX2_workInReached_64 rfl) (
  sc_tc (sc_s_aload_n dX2_workInReached_65 rfl) (
  sc_tc (sc_s_aload_n dX2_workInReached_66 rfl) (
  sc_tc (sc_s_inv dX2_workInReached_67 mo_32 (by decide) rfl kM_2_175 kI_32 kL_32) (
  sc_tc (sc_s_aload_n dX2_workInReached_70 rfl) (
  sc_tc (sc_s_iconst dX2_workInReached_71 (by decide)) (
  sc_tc (sc_s_inv dX2_workInReached_72 mo_20 (by decide) rfl kM_2_130 kI_20 kL_20) (
  sc_tc (sc_s_retV dX2_workInReached_75 rfl) ( trivial))))))))))))))))))))))))))))))))))))))))))
set_option maxRecDepth 100000 in
set_option maxHeartbeats 4000000 in
theorem ts_X2_guessNext : sc_TS yX2_guessNext cX2_guessNext 4 (some .int) st_X2_guessNext :=
  sc_tc (sc_s_aload_n dX2_guessNext_0 rfl) (
  sc_tc (sc_s_getN dX2_guessNext_1 (by decide) (by decide) kN_2_209) (
  sc_tc (sc_s_bipush dX2_guessNext_4 (by decide)) (
  sc_tc (sc_s_icmp_eq dX2_guessNext_6 (by decide)) (
  sc_tc (sc_s_aload_n dX2_guessNext_9 rfl) (
  sc_tc (sc_s_invN dX2_guessNext_10 mo_3 (by decide) rfl kG_2_216 kI_3 kL_3) (
  sc_tc (sc_s_if_eq dX2_guessNext_13 (by decide)) (
  sc_tc (sc_s_aload_n dX2_guessNext_16 rfl) (
  sc_tc (sc_s_get dX2_guessNext_17 (by decide) (by decide) kF_2_29) (
  sc_tc (sc_s_iload_n dX2_guessNext_20 rfl) (
  sc_tc (sc_s_bipush dX2_guessNext_21 (by decide)) (
  sc_tc (sc_s_ins dX2_guessNext_23 mo_28 kM_2_234 kS_28) (
  sc_tc (sc_s_iaload dX2_guessNext_26) (
  sc_tc (sc_s_iconst dX2_guessNext_27 (by decide)) (
  sc_tc (sc_s_icmp_lt dX2_guessNext_28 (by decide)) (
  sc_tc (sc_s_iconst dX2_guessNext_31 (by decide)) (
  sc_tc (sc_s_goto dX2_guessNext_32 (by decide)) (
  sc_tc (sc_s_iconst dX2_guessNext_35 (by decide)) (
  sc_tc (sc_s_istore_n dX2_guessNext_36 rfl (by decide)) (
  sc_tc (sc_s_iload_n dX2_guessNext_37 rfl) (
  sc_tc (sc_s_if_eq dX2_guessNext_38 (by decide)) (
  sc_tc (sc_s_iload_n dX2_guessNext_41 rfl) (
  sc_tc (sc_s_aload_n dX2_guessNext_42 rfl) (
  sc_tc (sc_s_getN dX2_guessNext_43 (by decide) (by decide) kN_2_206) (
  sc_tc (sc_s_iadd dX2_guessNext_46) (
  sc_tc (sc_s_goto dX2_guessNext_47 (by decide)) (
  sc_tc (sc_s_iload_n dX2_guessNext_50 rfl) (
  sc_tc (sc_s_iconst dX2_guessNext_51 (by decide)) (
  sc_tc (sc_s_iadd dX2_guessNext_52) (
  sc_tc (sc_s_retI dX2_guessNext_53 rfl) ( trivial))))))))))))))))))))))))))))))
set_option maxRecDepth 100000 in
set_option maxHeartbeats 4000000 in
theorem ts_X2_fetchIfFree : sc_TS yX2_fetchIfFree cX2_fetchIfFree 3 none st_X2_fetchIfFree :=
  sc_tc (sc_s_aload_n dX2_fetchIfFree_0 rfl) (
  sc_tc (sc_s_getN dX2_fetchIfFree_1 (by decide) (by decide) kN_2_80) (
  sc_tc (sc_s_if_eq dX2_fetchIfFree_4 (by decide)) (
  sc_tc (sc_s_retV dX2_fetchIfFree_7 rfl) (
  sc_tc (sc_s_aload_n dX2_fetchIfFree_8 rfl) (
  sc_tc (sc_s_get dX2_fetchIfFree_9 (by decide) (by decide) kF_2_63) (
  sc_tc (sc_s_if_lt dX2_fetchIfFree_12 (by decide)) (
  sc_tc (sc_s_aload_n dX2_fetchIfFree_15 rfl) (
  sc_tc (sc_s_get dX2_fetchIfFree_16 (by decide) (by decide) kF_2_63) (
  sc_tc (sc_s_bipush dX2_fetchIfFree_19 (by decide)) (
  sc_tc (sc_s_icmp_ge dX2_fetchIfFree_21 (by decide)) (
  sc_tc (sc_s_iconst dX2_fetchIfFree_24 (by decide)) (
  sc_tc (sc_s_goto dX2_fetchIfFree_25 (by decide)) (
  sc_tc (sc_s_iconst dX2_fetchIfFree_28 (by decide)) (
  sc_tc (sc_s_istore_n dX2_fetchIfFree_29 rfl (by decide)) (
  sc_tc (sc_s_aload_n dX2_fetchIfFree_30 rfl) (
  sc_tc (sc_s_iconst dX2_fetchIfFree_31 (by decide)) (
  sc_tc (sc_s_putZN dX2_fetchIfFree_32 (Or.inl rfl) (by decide) rfl rfl (by decide +kernel) kN_2_80) (
  sc_tc (sc_s_aload_n dX2_fetchIfFree_35 rfl) (
  sc_tc (sc_s_aload_n dX2_fetchIfFree_36 rfl) (
  sc_tc (sc_s_get dX2_fetchIfFree_37 (by decide) (by decide) kF_2_63) (
  sc_tc (sc_s_putIN dX2_fetchIfFree_40 (Or.inl rfl) (by decide) rfl rfl (by decide +kernel) kN_2_83) (
  sc_tc (sc_s_aload_n dX2_fetchIfFree_43 rfl) (
  sc_tc (sc_s_iload_n dX2_fetchIfFree_44 rfl) (
  sc_tc (sc_s_if_eq dX2_fetchIfFree_45 (by decide)) (
  sc_tc (sc_s_aload_n dX2_fetchIfFree_48 rfl) (
  sc_tc (sc_s_get dX2_fetchIfFree_49 (by decide) (by decide) kF_2_18) (
  sc_tc (sc_s_aload_n dX2_fetchIfFree_52 rfl) (
  sc_tc (sc_s_get dX2_fetchIfFree_53 (by decide) (by decide) kF_2_63) (
  sc_tc (sc_s_nload dX2_fetchIfFree_56) (
  sc_tc (sc_s_goto dX2_fetchIfFree_57 (by decide)) (
  sc_tc (sc_s_aload_n dX2_fetchIfFree_60 rfl) (
  sc_tc (sc_s_get dX2_fetchIfFree_61 (by decide) (by decide) kF_2_14) (
  sc_tc (sc_s_putN dX2_fetchIfFree_64 kN_2_149) (
  sc_tc (sc_s_aload_n dX2_fetchIfFree_67 rfl) (
  sc_tc (sc_s_iload_n dX2_fetchIfFree_68 rfl) (
  sc_tc (sc_s_if_eq dX2_fetchIfFree_69 (by decide)) (
  sc_tc (sc_s_iconst dX2_fetchIfFree_72 (by decide)) (
  sc_tc (sc_s_goto dX2_fetchIfFree_73 (by decide)) (
  sc_tc (sc_s_iconst dX2_fetchIfFree_76 (by decide)) (
  sc_tc (sc_s_putIN dX2_fetchIfFree_77 (Or.inl rfl) (by decide) rfl rfl (by decide +kernel) kN_2_136) (
  sc_tc (sc_s_aload_n dX2_fetchIfFree_80 rfl) (
  sc_tc (sc_s_iconst dX2_fetchIfFree_81 (by decide)) (
  sc_tc (sc_s_putIN dX2_fetchIfFree_82 (Or.inl rfl) (by decide) rfl rfl (by decide +kernel) kN_2_168) (
  sc_tc (sc_s_aload_n dX2_fetchIfFree_85 rfl) (
  sc_tc (sc_s_iconst dX2_fetchIfFree_86 (by decide)) (
  sc_tc (sc_s_putIN dX2_fetchIfFree_87 (Or.inl rfl) (by decide) rfl rfl (by decide +kernel) kN_2_161) (
  sc_tc (sc_s_aload_n dX2_fetchIfFree_90 rfl) (
  sc_tc (sc_s_iconst dX2_fetchIfFree_91 (by decide)) (
  sc_tc (sc_s_putIN dX2_fetchIfFree_92 (Or.inl rfl) (by decide) rfl rfl (by decide +kernel) kN_2_158) (
  sc_tc (sc_s_aload_n dX2_fetchIfFree_95 rfl) (
  sc_tc (sc_s_aload_n dX2_fetchIfFree_96 rfl) (
  sc_tc (sc_s_aload_n dX2_fetchIfFree_97 rfl) (
  sc_tc (sc_s_getN dX2_fetchIfFree_98 (by decide) (by decide) kN_2_149) (
  sc_tc (sc_s_aload_n dX2_fetchIfFree_101 rfl) (
  sc_tc (sc_s_get dX2_fetchIfFree_102 (by decide) (by decide) kF_2_63) (
  sc_tc (sc_s_inv dX2_fetchIfFree_105 mo_34 (by decide) rfl kM_2_243 kI_34 kL_34) (
  sc_tc (sc_s_putIN dX2_fetchIfFree_108 (Or.inl rfl) (by decide) rfl rfl (by decide +kernel) kN_2_240) (
  sc_tc (sc_s_aload_n dX2_fetchIfFree_111 rfl) (
  sc_tc (sc_s_aload_n dX2_fetchIfFree_112 rfl) (
  sc_tc (sc_s_getN dX2_fetchIfFree_113 (by decide) (by decide) kN_2_240) (
  sc_tc (sc_s_putI dX2_fetchIfFree_116 (Or.inr (Or.inl rfl)) (by decide) rfl rfl (by decide +kernel) kF_2_63) (
  sc_tc (sc_s_retV dX2_fetchIfFree_119 rfl) ( trivial)))))))))))))))))))))))))))))))))))))))))))))))))))))))))))))))
set_option maxRecDepth 100000 in
set_option maxHeartbeats 4000000 in
theorem ts_X2_runCycle : sc_TS yX2_runCycle cX2_runCycle 1 none st_X2_runCycle :=
  sc_tc (sc_s_aload_n dX2_runCycle_0 rfl) (
  sc_tc (sc_s_dup dX2_runCycle_1) (
  sc_tc (sc_s_get dX2_runCycle_2 (by decide) (by decide) kF_2_92) (
  sc_tc (sc_s_iconst dX2_runCycle_5 (by decide)) (
  sc_tc (sc_s_iadd dX2_runCycle_6) (
  sc_tc (sc_s_putI dX2_runCycle_7 (Or.inr (Or.inl rfl)) (by decide) rfl rfl (by decide +kernel) kF_2_92) (
  sc_tc (sc_s_aload_n dX2_runCycle_10 rfl) (
  sc_tc (sc_s_aload_n dX2_runCycle_11 rfl) (
  sc_tc (sc_s_get dX2_runCycle_12 (by decide) (by decide) kF_2_34) (
  sc_tc (sc_s_iconst dX2_runCycle_15 (by decide)) (
  sc_tc (sc_s_fload dX2_runCycle_16) (
  sc_tc (sc_s_inv dX2_runCycle_17 mo_19 (by decide) rfl kM_2_119 kI_19 kL_19) (
  sc_tc (sc_s_if_eq dX2_runCycle_20 (by decide)) (
  sc_tc (sc_s_retV dX2_runCycle_23 rfl) (
  sc_tc (sc_s_aload_n dX2_runCycle_24 rfl) (
  sc_tc (sc_s_aload_n dX2_runCycle_25 rfl) (
  sc_tc (sc_s_get dX2_runCycle_26 (by decide) (by decide) kF_2_34) (
  sc_tc (sc_s_iconst dX2_runCycle_29 (by decide)) (
  sc_tc (sc_s_fload dX2_runCycle_30) (
  sc_tc (sc_s_inv dX2_runCycle_31 mo_21 (by decide) rfl kM_2_123 kI_21 kL_21) (
  sc_tc (sc_s_aload_n dX2_runCycle_34 rfl) (
  sc_tc (sc_s_aload_n dX2_runCycle_35 rfl) (
  sc_tc (sc_s_get dX2_runCycle_36 (by decide) (by decide) kF_2_34) (
  sc_tc (sc_s_iconst dX2_runCycle_39 (by decide)) (
  sc_tc (sc_s_fload dX2_runCycle_40) (
  sc_tc (sc_s_inv dX2_runCycle_41 mo_33 (by decide) rfl kM_2_127 kI_33 kL_33) (
  sc_tc (sc_s_aload_n dX2_runCycle_44 rfl) (
  sc_tc (sc_s_iconst dX2_runCycle_45 (by decide)) (
  sc_tc (sc_s_inv dX2_runCycle_46 mo_20 (by decide) rfl kM_2_130 kI_20 kL_20) (
  sc_tc (sc_s_aload_n dX2_runCycle_49 rfl) (
  sc_tc (sc_s_iconst dX2_runCycle_50 (by decide)) (
  sc_tc (sc_s_inv dX2_runCycle_51 mo_20 (by decide) rfl kM_2_130 kI_20 kL_20) (
  sc_tc (sc_s_aload_n dX2_runCycle_54 rfl) (
  sc_tc (sc_s_aload_n dX2_runCycle_55 rfl) (
  sc_tc (sc_s_get dX2_runCycle_56 (by decide) (by decide) kF_2_34) (
  sc_tc (sc_s_iconst dX2_runCycle_59 (by decide)) (
  sc_tc (sc_s_fload dX2_runCycle_60) (
  sc_tc (sc_s_inv dX2_runCycle_61 mo_35 (by decide) rfl kM_2_133 kI_35 kL_35) (
  sc_tc (sc_s_retV dX2_runCycle_64 rfl) ( trivial)))))))))))))))))))))))))))))))))))))))
set_option maxRecDepth 100000 in
set_option maxHeartbeats 4000000 in
theorem ts_X2_cycles : sc_TS yX2_cycles cX2_cycles 4 (some .int) st_X2_cycles :=
  sc_tc (sc_s_iload_n dX2_cycles_0 rfl) (
  sc_tc (sc_s_iconst dX2_cycles_1 (by decide)) (
  sc_tc (sc_s_sipush dX2_cycles_2 (by decide)) (
  sc_tc (sc_s_ins dX2_cycles_5 mo_9 kM_2_48 kS_9) (
  sc_tc (sc_s_aload_n dX2_cycles_8 rfl) (
  sc_tc (sc_s_get dX2_cycles_9 (by decide) (by decide) kF_2_74) (
  sc_tc (sc_s_istore_n dX2_cycles_12 rfl (by decide)) (
  sc_tc (sc_s_iconst dX2_cycles_13 (by decide)) (
  sc_tc (sc_s_istore_n dX2_cycles_14 rfl (by decide)) (
  sc_tc (sc_s_iload_n dX2_cycles_15 rfl) (
  sc_tc (sc_s_iload_n dX2_cycles_16 rfl) (
  sc_tc (sc_s_icmp_ge dX2_cycles_17 (by decide)) (
  sc_tc (sc_s_aload_n dX2_cycles_20 rfl) (
  sc_tc (sc_s_get dX2_cycles_21 (by decide) (by decide) kF_2_67) (
  sc_tc (sc_s_if_ne dX2_cycles_24 (by decide)) (
  sc_tc (sc_s_aload_n dX2_cycles_27 rfl) (
  sc_tc (sc_s_inv dX2_cycles_28 mo_36 (by decide) rfl kM_2_77 kI_36 kL_36) (
  sc_tc (sc_s_iinc dX2_cycles_31 (by decide) (by decide)) (
  sc_tc (sc_s_goto dX2_cycles_34 (by decide)) (
  sc_tc (sc_s_aload_n dX2_cycles_37 rfl) (
  sc_tc (sc_s_get dX2_cycles_38 (by decide) (by decide) kF_2_74) (
  sc_tc (sc_s_iload_n dX2_cycles_41 rfl) (
  sc_tc (sc_s_isub dX2_cycles_42) (
  sc_tc (sc_s_retI dX2_cycles_43 rfl) ( trivial))))))))))))))))))))))))
set_option maxRecDepth 100000 in
set_option maxHeartbeats 4000000 in
theorem ts_X2_stage : sc_TS yX2_stage cX2_stage 3 (some .int) st_X2_stage :=
  sc_tc (sc_s_iload_n dX2_stage_0 rfl) (
  sc_tc (sc_s_iconst dX2_stage_1 (by decide)) (
  sc_tc (sc_s_ins dX2_stage_2 mo_8 kM_2_44 kS_8) (
  sc_tc (sc_s_aload_n dX2_stage_5 rfl) (
  sc_tc (sc_s_get dX2_stage_6 (by decide) (by decide) kF_2_34) (
  sc_tc (sc_s_iload_n dX2_stage_9 rfl) (
  sc_tc (sc_s_fload dX2_stage_10) (
  sc_tc (sc_s_astore_n dX2_stage_11 rfl (by decide)) (
  sc_tc (sc_s_aload_n dX2_stage_12 rfl) (
  sc_tc (sc_s_getN dX2_stage_13 (by decide) (by decide) kN_2_80) (
  sc_tc (sc_s_if_eq dX2_stage_16 (by decide)) (
  sc_tc (sc_s_aload_n dX2_stage_19 rfl) (
  sc_tc (sc_s_getN dX2_stage_20 (by decide) (by decide) kN_2_83) (
  sc_tc (sc_s_goto dX2_stage_23 (by decide)) (
  sc_tc (sc_s_iconst dX2_stage_26 (by decide)) (
  sc_tc (sc_s_retI dX2_stage_27 rfl) ( trivial))))))))))))))))
set_option maxRecDepth 100000 in
set_option maxHeartbeats 4000000 in
theorem ts_X2_counter : sc_TS yX2_counter cX2_counter 2 (some .int) st_X2_counter :=
  sc_tc (sc_s_iload_n dX2_counter_0 rfl) (
  sc_tc (sc_s_bipush dX2_counter_1 (by decide)) (
  sc_tc (sc_s_ins dX2_counter_3 mo_8 kM_2_44 kS_8) (
  sc_tc (sc_s_aload_n dX2_counter_6 rfl) (
  sc_tc (sc_s_get dX2_counter_7 (by decide) (by decide) kF_2_29) (
  sc_tc (sc_s_iload_n dX2_counter_10 rfl) (
  sc_tc (sc_s_iaload dX2_counter_11) (
  sc_tc (sc_s_retI dX2_counter_12 rfl) ( trivial))))))))
set_option maxRecDepth 100000 in
set_option maxHeartbeats 4000000 in
theorem ts_X2_retired : sc_TS yX2_retired cX2_retired 2 (some .int) st_X2_retired :=
  sc_tc (sc_s_iload_n dX2_retired_0 rfl) (
  sc_tc (sc_s_aload_n dX2_retired_1 rfl) (
  sc_tc (sc_s_get dX2_retired_2 (by decide) (by decide) kF_2_74) (
  sc_tc (sc_s_bipush dX2_retired_5 (by decide)) (
  sc_tc (sc_s_ins dX2_retired_7 mo_71 kM_2_86 kS_71) (
  sc_tc (sc_s_ins dX2_retired_10 mo_8 kM_2_44 kS_8) (
  sc_tc (sc_s_aload_n dX2_retired_13 rfl) (
  sc_tc (sc_s_get dX2_retired_14 (by decide) (by decide) kF_2_41) (
  sc_tc (sc_s_aload_n dX2_retired_17 rfl) (
  sc_tc (sc_s_get dX2_retired_18 (by decide) (by decide) kF_2_74) (
  sc_tc (sc_s_iconst dX2_retired_21 (by decide)) (
  sc_tc (sc_s_isub dX2_retired_22) (
  sc_tc (sc_s_iload_n dX2_retired_23 rfl) (
  sc_tc (sc_s_isub dX2_retired_24) (
  sc_tc (sc_s_bipush dX2_retired_25 (by decide)) (
  sc_tc (sc_s_irem dX2_retired_27) (
  sc_tc (sc_s_iaload dX2_retired_28) (
  sc_tc (sc_s_retI dX2_retired_29 rfl) ( trivial))))))))))))))))))
set_option maxRecDepth 100000 in
set_option maxHeartbeats 4000000 in
theorem ts_X2_count : sc_TS yX2_count cX2_count 2 (some .int) st_X2_count :=
  sc_tc (sc_s_iload_n dX2_count_0 rfl) (
  sc_tc (sc_s_sw dX2_count_1 (by decide) (by decide) (by decide +kernel)) (
  sc_tc (sc_s_aload_n dX2_count_52 rfl) (
  sc_tc (sc_s_get dX2_count_53 (by decide) (by decide) kF_2_92) (
  sc_tc (sc_s_retI dX2_count_56 rfl) (
  sc_tc (sc_s_aload_n dX2_count_57 rfl) (
  sc_tc (sc_s_get dX2_count_58 (by decide) (by decide) kF_2_74) (
  sc_tc (sc_s_retI dX2_count_61 rfl) (
  sc_tc (sc_s_aload_n dX2_count_62 rfl) (
  sc_tc (sc_s_get dX2_count_63 (by decide) (by decide) kF_2_95) (
  sc_tc (sc_s_retI dX2_count_66 rfl) (
  sc_tc (sc_s_aload_n dX2_count_67 rfl) (
  sc_tc (sc_s_get dX2_count_68 (by decide) (by decide) kF_2_98) (
  sc_tc (sc_s_retI dX2_count_71 rfl) (
  sc_tc (sc_s_aload_n dX2_count_72 rfl) (
  sc_tc (sc_s_get dX2_count_73 (by decide) (by decide) kF_2_101) (
  sc_tc (sc_s_retI dX2_count_76 rfl) (
  sc_tc (sc_s_aload_n dX2_count_77 rfl) (
  sc_tc (sc_s_get dX2_count_78 (by decide) (by decide) kF_2_63) (
  sc_tc (sc_s_retI dX2_count_81 rfl) (
  sc_tc (sc_s_aload_n dX2_count_82 rfl) (
  sc_tc (sc_s_get dX2_count_83 (by decide) (by decide) kF_2_104) (
  sc_tc (sc_s_retI dX2_count_86 rfl) (
  sc_tc (sc_s_aload_n dX2_count_87 rfl) (
  sc_tc (sc_s_get dX2_count_88 (by decide) (by decide) kF_2_107) (
  sc_tc (sc_s_retI dX2_count_91 rfl) (
  sc_tc (sc_s_aload_n dX2_count_92 rfl) (
  sc_tc (sc_s_get dX2_count_93 (by decide) (by decide) kF_2_67) (
  sc_tc (sc_s_if_eq dX2_count_96 (by decide)) (
  sc_tc (sc_s_iconst dX2_count_99 (by decide)) (
  sc_tc (sc_s_goto dX2_count_100 (by decide)) (
  sc_tc (sc_s_iconst dX2_count_103 (by decide)) (
  sc_tc (sc_s_retI dX2_count_104 rfl) (
  sc_tc (sc_s_bad) (
  sc_tc (sc_s_dup dX2_count_108) (
  sc_tc (sc_s_bad) (
  sc_tc (sc_s_bad) (
  sc_tc (sc_s_bad) ( trivial))))))))))))))))))))))))))))))))))))))
set_option maxRecDepth 100000 in
set_option maxHeartbeats 4000000 in
theorem ts_X3_thrown : sc_TS yX3_thrown cX3_thrown 1 (some .int) st_X3_thrown :=
  sc_tc (sc_s_aload_n dX3_thrown_0 rfl) (
  sc_tc (sc_s_get dX3_thrown_1 (by decide) (by decide) kF_3_71) (
  sc_tc (sc_s_retI dX3_thrown_4 rfl) ( trivial)))
set_option maxRecDepth 100000 in
set_option maxHeartbeats 4000000 in
theorem ts_X3_out : sc_TS yX3_out cX3_out 4 (some .boolean) st_X3_out :=
  sc_tc (sc_s_aload_n dX3_out_0 rfl) (
  sc_tc (sc_s_iload_n dX3_out_1 rfl) (
  sc_tc (sc_s_iload_n dX3_out_2 rfl) (
  sc_tc (sc_s_icmp_lt dX3_out_3 (by decide)) (
  sc_tc (sc_s_iload_n dX3_out_6 rfl) (
  sc_tc (sc_s_iload_n dX3_out_7 rfl) (
  sc_tc (sc_s_icmp_gt dX3_out_8 (by decide)) (
  sc_tc (sc_s_iconst dX3_out_11 (by decide)) (
  sc_tc (sc_s_goto dX3_out_12 (by decide)) (
  sc_tc (sc_s_iconst dX3_out_15 (by decide)) (
  sc_tc (sc_s_putI dX3_out_16 (Or.inr (Or.inr rfl)) (by decide) rfl rfl (by decide +kernel) kF_3_71) (
  sc_tc (sc_s_aload_n dX3_out_19 rfl) (
  sc_tc (sc_s_get dX3_out_20 (by decide) (by decide) kF_3_71) (
  sc_tc (sc_s_if_le dX3_out_23 (by decide)) (
  sc_tc (sc_s_iconst dX3_out_26 (by decide)) (
  sc_tc (sc_s_goto dX3_out_27 (by decide)) (
  sc_tc (sc_s_iconst dX3_out_30 (by decide)) (
  sc_tc (sc_s_retZ dX3_out_31 rfl) ( trivial))))))))))))))))))
set_option maxRecDepth 100000 in
set_option maxHeartbeats 4000000 in
theorem ts_X3_in : sc_TS yX3_in cX3_in 3 (some .boolean) st_X3_in :=
  sc_tc (sc_s_iload_n dX3_in_0 rfl) (
  sc_tc (sc_s_iload_n dX3_in_1 rfl) (
  sc_tc (sc_s_icmp_lt dX3_in_2 (by decide)) (
  sc_tc (sc_s_iload_n dX3_in_5 rfl) (
  sc_tc (sc_s_iload_n dX3_in_6 rfl) (
  sc_tc (sc_s_icmp_gt dX3_in_7 (by decide)) (
  sc_tc (sc_s_iconst dX3_in_10 (by decide)) (
  sc_tc (sc_s_goto dX3_in_11 (by decide)) (
  sc_tc (sc_s_iconst dX3_in_14 (by decide)) (
  sc_tc (sc_s_retZ dX3_in_15 rfl) ( trivial))))))))))
set_option maxRecDepth 100000 in
set_option maxHeartbeats 4000000 in
theorem ts_X3_put : sc_TS yX3_put cX3_put 7 none st_X3_put :=
  sc_tc (sc_s_aload_n dX3_put_0 rfl) (
  sc_tc (sc_s_iload_n dX3_put_1 rfl) (
  sc_tc (sc_s_iconst dX3_put_2 (by decide)) (
  sc_tc (sc_s_bipush dX3_put_3 (by decide)) (
  sc_tc (sc_s_inv dX3_put_5 mo_43 (by decide) rfl kM_3_75 kI_43 kL_43) (
  sc_tc (sc_s_if_eq dX3_put_8 (by decide)) (
  sc_tc (sc_s_retV dX3_put_11 rfl) (
  sc_tc (sc_s_iload_n dX3_put_12 rfl) (
  sc_tc (sc_s_iconst dX3_put_13 (by decide)) (
  sc_tc (sc_s_bipush dX3_put_14 (by decide)) (
  sc_tc (sc_s_ins dX3_put_16 mo_44 kM_3_79 kS_44) (
  sc_tc (sc_s_if_eq dX3_put_19 (by decide)) (
  sc_tc (sc_s_iload_n dX3_put_22 rfl) (
  sc_tc (sc_s_iconst dX3_put_23 (by decide)) (
  sc_tc (sc_s_bipush dX3_put_24 (by decide)) (
  sc_tc (sc_s_ins dX3_put_26 mo_44 kM_3_79 kS_44) (
  sc_tc (sc_s_if_eq dX3_put_29 (by decide)) (
  sc_tc (sc_s_iload dX3_put_32) (
  sc_tc (sc_s_iconst dX3_put_34 (by decide)) (
  sc_tc (sc_s_bipush dX3_put_35 (by decide)) (
  sc_tc (sc_s_ins dX3_put_37 mo_44 kM_3_79 kS_44) (
  sc_tc (sc_s_if_eq dX3_put_40 (by decide)) (
  sc_tc (sc_s_iload dX3_put_43) (
  sc_tc (sc_s_iconst dX3_put_45 (by decide)) (
  sc_tc (sc_s_bipush dX3_put_46 (by decide)) (
  sc_tc (sc_s_ins dX3_put_48 mo_44 kM_3_79 kS_44) (
  sc_tc (sc_s_if_eq dX3_put_51 (by decide)) (
  sc_tc (sc_s_iload dX3_put_54) (
  sc_tc (sc_s_bipush dX3_put_56 (by decide)) (
  sc_tc (sc_s_bipush dX3_put_58 (by decide)) (
  sc_tc (sc_s_ins dX3_put_60 mo_44 kM_3_79 kS_44) (
  sc_tc (sc_s_if_ne dX3_put_63 (by decide)) (
  sc_tc (sc_s_aload_n dX3_put_66 rfl) (
  sc_tc (sc_s_iconst dX3_put_67 (by decide)) (
  sc_tc (sc_s_putI dX3_put_68 (Or.inr (Or.inr rfl)) (by decide) rfl rfl (by decide +kernel) kF_3_71) (
  sc_tc (sc_s_retV dX3_put_71 rfl) (
  sc_tc (sc_s_aload_n dX3_put_72 rfl) (
  sc_tc (sc_s_get dX3_put_73 (by decide) (by decide) kF_3_7) (
  sc_tc (sc_s_iload_n dX3_put_76 rfl) (
  sc_tc (sc_s_iload_n dX3_put_77 rfl) (
  sc_tc (sc_s_iastore dX3_put_78) (
  sc_tc (sc_s_aload_n dX3_put_79 rfl) (
  sc_tc (sc_s_get dX3_put_80 (by decide) (by decide) kF_3_13) (
  sc_tc (sc_s_iload_n dX3_put_83 rfl) (
  sc_tc (sc_s_iload_n dX3_put_84 rfl) (
  sc_tc (sc_s_iastore dX3_put_85) (
  sc_tc (sc_s_aload_n dX3_put_86 rfl) (
  sc_tc (sc_s_get dX3_put_87 (by decide) (by decide) kF_3_16) (
  sc_tc (sc_s_iload_n dX3_put_90 rfl) (
  sc_tc (sc_s_iload dX3_put_91) (
  sc_tc (sc_s_iastore dX3_put_93) (
  sc_tc (sc_s_aload_n dX3_put_94 rfl) (
  sc_tc (sc_s_get dX3_put_95 (by decide) (by decide) kF_3_19) (
  sc_tc (sc_s_iload_n dX3_put_98 rfl) (
  sc_tc (sc_s_iload dX3_put_99) (
  sc_tc (sc_s_iastore dX3_put_101) (
  sc_tc (sc_s_aload_n dX3_put_102 rfl) (
  sc_tc (sc_s_get dX3_put_103 (by decide) (by decide) kF_3_22) (
  sc_tc (sc_s_iload_n dX3_put_106 rfl) (
  sc_tc (sc_s_iload dX3_put_107) (
  sc_tc (sc_s_iastore dX3_put_109) (
  sc_tc (sc_s_retV dX3_put_110 rfl) ( trivial))))))))))))))))))))))))))))))))))))))))))))))))))))))))))))))
set_option maxRecDepth 100000 in
set_option maxHeartbeats 4000000 in
theorem ts_X3_poke : sc_TS yX3_poke cX3_poke 4 (some .int) st_X3_poke :=
  sc_tc (sc_s_aload_n dX3_poke_0 rfl) (
  sc_tc (sc_s_iload_n dX3_poke_1 rfl) (
  sc_tc (sc_s_iconst dX3_poke_2 (by decide)) (
  sc_tc (sc_s_bipush dX3_poke_3 (by decide)) (
  sc_tc (sc_s_inv dX3_poke_5 mo_43 (by decide) rfl kM_3_75 kI_43 kL_43) (
  sc_tc (sc_s_if_eq dX3_poke_8 (by decide)) (
  sc_tc (sc_s_iconst dX3_poke_11 (by decide)) (
  sc_tc (sc_s_retI dX3_poke_12 rfl) (
  sc_tc (sc_s_aload_n dX3_poke_13 rfl) (
  sc_tc (sc_s_get dX3_poke_14 (by decide) (by decide) kF_3_25) (
  sc_tc (sc_s_iload_n dX3_poke_17 rfl) (
  sc_tc (sc_s_iaload dX3_poke_18) (
  sc_tc (sc_s_istore_n dX3_poke_19 rfl (by decide)) (
  sc_tc (sc_s_aload_n dX3_poke_20 rfl) (
  sc_tc (sc_s_get dX3_poke_21 (by decide) (by decide) kF_3_25) (
  sc_tc (sc_s_iload_n dX3_poke_24 rfl) (
  sc_tc (sc_s_iload_n dX3_poke_25 rfl) (
  sc_tc (sc_s_iastore dX3_poke_26) (
  sc_tc (sc_s_iload_n dX3_poke_27 rfl) (
  sc_tc (sc_s_retI dX3_poke_28 rfl) ( trivial))))))))))))))))))))
set_option maxRecDepth 100000 in
set_option maxHeartbeats 4000000 in
theorem ts_X3_peek : sc_TS yX3_peek cX3_peek 2 (some .int) st_X3_peek :=
  sc_tc (sc_s_aload_n dX3_peek_0 rfl) (
  sc_tc (sc_s_iload_n dX3_peek_1 rfl) (
  sc_tc (sc_s_iconst dX3_peek_2 (by decide)) (
  sc_tc (sc_s_bipush dX3_peek_3 (by decide)) (
  sc_tc (sc_s_inv dX3_peek_5 mo_43 (by decide) rfl kM_3_75 kI_43 kL_43) (
  sc_tc (sc_s_if_eq dX3_peek_8 (by decide)) (
  sc_tc (sc_s_iconst dX3_peek_11 (by decide)) (
  sc_tc (sc_s_goto dX3_peek_12 (by decide)) (
  sc_tc (sc_s_aload_n dX3_peek_15 rfl) (
  sc_tc (sc_s_get dX3_peek_16 (by decide) (by decide) kF_3_25) (
  sc_tc (sc_s_iload_n dX3_peek_19 rfl) (
  sc_tc (sc_s_iaload dX3_peek_20) (
  sc_tc (sc_s_retI dX3_peek_21 rfl) ( trivial)))))))))))))
set_option maxRecDepth 100000 in
set_option maxHeartbeats 4000000 in
theorem ts_X3_set : sc_TS yX3_set cX3_set 4 (some .int) st_X3_set :=
  sc_tc (sc_s_aload_n dX3_set_0 rfl) (
  sc_tc (sc_s_iload_n dX3_set_1 rfl) (
  sc_tc (sc_s_iconst dX3_set_2 (by decide)) (
  sc_tc (sc_s_bipush dX3_set_3 (by decide)) (
  sc_tc (sc_s_inv dX3_set_5 mo_43 (by decide) rfl kM_3_75 kI_43 kL_43) (
  sc_tc (sc_s_if_eq dX3_set_8 (by decide)) (
  sc_tc (sc_s_iconst dX3_set_11 (by decide)) (
  sc_tc (sc_s_retI dX3_set_12 rfl) (
  sc_tc (sc_s_aload_n dX3_set_13 rfl) (
  sc_tc (sc_s_get dX3_set_14 (by decide) (by decide) kF_3_28) (
  sc_tc (sc_s_iload_n dX3_set_17 rfl) (
  sc_tc (sc_s_iaload dX3_set_18) (
  sc_tc (sc_s_istore_n dX3_set_19 rfl (by decide)) (
  sc_tc (sc_s_aload_n dX3_set_20 rfl) (
  sc_tc (sc_s_get dX3_set_21 (by decide) (by decide) kF_3_28) (
  sc_tc (sc_s_iload_n dX3_set_24 rfl) (
  sc_tc (sc_s_iload_n dX3_set_25 rfl) (
  sc_tc (sc_s_iastore dX3_set_26) (
  sc_tc (sc_s_iload_n dX3_set_27 rfl) (
  sc_tc (sc_s_retI dX3_set_28 rfl) ( trivial))))))))))))))))))))
set_option maxRecDepth 100000 in
set_option maxHeartbeats 4000000 in
theorem ts_X3_register : sc_TS yX3_register cX3_register 2 (some .int) st_X3_register :=
  sc_tc (sc_s_aload_n dX3_register_0 rfl) (
  sc_tc (sc_s_iload_n dX3_register_1 rfl) (
  sc_tc (sc_s_iconst dX3_register_2 (by decide)) (
  sc_tc (sc_s_bipush dX3_register_3 (by decide)) (
  sc_tc (sc_s_inv dX3_register_5 mo_43 (by decide) rfl kM_3_75 kI_43 kL_43) (
  sc_tc (sc_s_if_eq dX3_register_8 (by decide)) (
  sc_tc (sc_s_iconst dX3_register_11 (by decide)) (
  sc_tc (sc_s_goto dX3_register_12 (by decide)) (
  sc_tc (sc_s_aload_n dX3_register_15 rfl) (
  sc_tc (sc_s_get dX3_register_16 (by decide) (by decide) kF_3_28) (
  sc_tc (sc_s_iload_n dX3_register_19 rfl) (
  sc_tc (sc_s_iaload dX3_register_20) (
  sc_tc (sc_s_retI dX3_register_21 rfl) ( trivial)))))))))))))
set_option maxRecDepth 100000 in
set_option maxHeartbeats 4000000 in
theorem ts_X3_empty : sc_TS yX3_empty cX3_empty 2 none st_X3_empty :=
  sc_tc (sc_s_iconst dX3_empty_0 (by decide)) (
  sc_tc (sc_s_istore_n dX3_empty_1 rfl (by decide)) (
  sc_tc (sc_s_iload_n dX3_empty_2 rfl) (
  sc_tc (sc_s_iconst dX3_empty_3 (by decide)) (
  sc_tc (sc_s_icmp_ge dX3_empty_4 (by decide)) (
  sc_tc (sc_s_aload_n dX3_empty_7 rfl) (
  sc_tc (sc_s_get dX3_empty_8 (by decide) (by decide) kF_3_34) (
  sc_tc (sc_s_iload_n dX3_empty_11 rfl) (
  sc_tc (sc_s_iconst dX3_empty_12 (by decide)) (
  sc_tc (sc_s_bastore dX3_empty_13) (
  sc_tc (sc_s_iinc dX3_empty_14 (by decide) (by decide)) (
  sc_tc (sc_s_goto dX3_empty_17 (by decide)) (
  sc_tc (sc_s_retV dX3_empty_20 rfl) ( trivial)))))))))))))
set_option maxRecDepth 100000 in
set_option maxHeartbeats 4000000 in
theorem ts_X3_start : sc_TS yX3_start cX3_start 2 none st_X3_start :=
  sc_tc (sc_s_aload_n dX3_start_0 rfl) (
  sc_tc (sc_s_iload_n dX3_start_1 rfl) (
  sc_tc (sc_s_iconst dX3_start_2 (by decide)) (
  sc_tc (sc_s_bipush dX3_start_3 (by decide)) (
  sc_tc (sc_s_inv dX3_start_5 mo_43 (by decide) rfl kM_3_75 kI_43 kL_43) (
  sc_tc (sc_s_if_eq dX3_start_8 (by decide)) (
  sc_tc (sc_s_retV dX3_start_11 rfl) (
  sc_tc (sc_s_aload_n dX3_start_12 rfl) (
  sc_tc (sc_s_inv dX3_start_13 mo_50 (by decide) rfl kM_3_82 kI_50 kL_50) (
  sc_tc (sc_s_aload_n dX3_start_16 rfl) (
  sc_tc (sc_s_iload_n dX3_start_17 rfl) (
  sc_tc (sc_s_putI dX3_start_18 (Or.inr (Or.inr rfl)) (by decide) rfl rfl (by decide +kernel) kF_3_85) (
  sc_tc (sc_s_aload_n dX3_start_21 rfl) (
  sc_tc (sc_s_iconst dX3_start_22 (by decide)) (
  sc_tc (sc_s_putZ dX3_start_23 (Or.inr (Or.inr rfl)) (by decide) rfl rfl (by decide +kernel) kF_3_88) (
  sc_tc (sc_s_retV dX3_start_26 rfl) ( trivial))))))))))))))))
set_option maxRecDepth 100000 in
set_option maxHeartbeats 4000000 in
theorem ts_X3_handler : sc_TS yX3_handler cX3_handler 3 (some .int) st_X3_handler :=
  sc_tc (sc_s_aload_n dX3_handler_0 rfl) (
  sc_tc (sc_s_iload_n dX3_handler_1 rfl) (
  sc_tc (sc_s_iconst dX3_handler_2 (by decide)) (
  sc_tc (sc_s_bipush dX3_handler_3 (by decide)) (
  sc_tc (sc_s_inv dX3_handler_5 mo_43 (by decide) rfl kM_3_75 kI_43 kL_43) (
  sc_tc (sc_s_if_eq dX3_handler_8 (by decide)) (
  sc_tc (sc_s_iconst dX3_handler_11 (by decide)) (
  sc_tc (sc_s_retI dX3_handler_12 rfl) (
  sc_tc (sc_s_aload_n dX3_handler_13 rfl) (
  sc_tc (sc_s_get dX3_handler_14 (by decide) (by decide) kF_3_92) (
  sc_tc (sc_s_istore_n dX3_handler_17 rfl (by decide)) (
  sc_tc (sc_s_aload_n dX3_handler_18 rfl) (
  sc_tc (sc_s_iload_n dX3_handler_19 rfl) (
  sc_tc (sc_s_putI dX3_handler_20 (Or.inr (Or.inr rfl)) (by decide) rfl rfl (by decide +kernel) kF_3_92) (
  sc_tc (sc_s_iload_n dX3_handler_23 rfl) (
  sc_tc (sc_s_retI dX3_handler_24 rfl) ( trivial))))))))))))))))
set_option maxRecDepth 100000 in
set_option maxHeartbeats 4000000 in
theorem ts_X3_writes : sc_TS yX3_writes cX3_writes 1 (some .boolean) st_X3_writes :=
  sc_tc (sc_s_iload_n dX3_writes_0 rfl) (
  sc_tc (sc_s_iconst dX3_writes_1 (by decide)) (
  sc_tc (sc_s_bipush dX3_writes_2 (by decide)) (
  sc_tc (sc_s_ins dX3_writes_4 mo_44 kM_3_79 kS_44) (
  sc_tc (sc_s_if_ne dX3_writes_7 (by decide)) (
  sc_tc (sc_s_iload_n dX3_writes_10 rfl) (
  sc_tc (sc_s_bipush dX3_writes_11 (by decide)) (
  sc_tc (sc_s_icmp_eq dX3_writes_13 (by decide)) (
  sc_tc (sc_s_iload_n dX3_writes_16 rfl) (
  sc_tc (sc_s_bipush dX3_writes_17 (by decide)) (
  sc_tc (sc_s_icmp_ne dX3_writes_19 (by decide)) (
  sc_tc (sc_s_iconst dX3_writes_22 (by decide)) (
  sc_tc (sc_s_goto dX3_writes_23 (by decide)) (
  sc_tc (sc_s_iconst dX3_writes_26 (by decide)) (
  sc_tc (sc_s_retZ dX3_writes_27 rfl) ( trivial)))))))))))))))
set_option maxRecDepth 100000 in
set_option maxHeartbeats 4000000 in
theorem ts_X3_usesFirst : sc_TS yX3_usesFirst cX3_usesFirst 1 (some .boolean) st_X3_usesFirst :=
  sc_tc (sc_s_iload_n dX3_usesFirst_0 rfl) (
  sc_tc (sc_s_iconst dX3_usesFirst_1 (by decide)) (
  sc_tc (sc_s_bipush dX3_usesFirst_2 (by decide)) (
  sc_tc (sc_s_ins dX3_usesFirst_4 mo_44 kM_3_79 kS_44) (
  sc_tc (sc_s_if_ne dX3_usesFirst_7 (by decide)) (
  sc_tc (sc_s_iload_n dX3_usesFirst_10 rfl) (
  sc_tc (sc_s_bipush dX3_usesFirst_11 (by decide)) (
  sc_tc (sc_s_bipush dX3_usesFirst_13 (by decide)) (
  sc_tc (sc_s_ins dX3_usesFirst_15 mo_44 kM_3_79 kS_44) (
  sc_tc (sc_s_if_ne dX3_usesFirst_18 (by decide)) (
  sc_tc (sc_s_iload_n dX3_usesFirst_21 rfl) (
  sc_tc (sc_s_bipush dX3_usesFirst_22 (by decide)) (
  sc_tc (sc_s_icmp_ne dX3_usesFirst_24 (by decide)) (
  sc_tc (sc_s_iconst dX3_usesFirst_27 (by decide)) (
  sc_tc (sc_s_goto dX3_usesFirst_28 (by decide)) (
  sc_tc (sc_s_iconst dX3_usesFirst_31 (by decide)) (
  sc_tc (sc_s_retZ dX3_usesFirst_32 rfl) ( trivial)))))))))))))))))
set_option maxRecDepth 100000 in
set_option maxHeartbeats 4000000 in
theorem ts_X3_usesSecond : sc_TS yX3_usesSecond cX3_usesSecond 1 (some .boolean) st_X3_usesSecond :=
  sc_tc (sc_s_iload_n dX3_usesSecond_0 rfl) (
  sc_tc (sc_s_iconst dX3_usesSecond_1 (by decide)) (
  sc_tc (sc_s_bipush dX3_usesSecond_2 (by decide)) (
  sc_tc (sc_s_ins dX3_usesSecond_4 mo_44 kM_3_79 kS_44) (
  sc_tc (sc_s_if_ne dX3_usesSecond_7 (by decide)) (
  sc_tc (sc_s_iload_n dX3_usesSecond_10 rfl) (
  sc_tc (sc_s_bipush dX3_usesSecond_11 (by decide)) (
  sc_tc (sc_s_bipush dX3_usesSecond_13 (by decide)) (
  sc_tc (sc_s_ins dX3_usesSecond_15 mo_44 kM_3_79 kS_44) (
  sc_tc (sc_s_if_eq dX3_usesSecond_18 (by decide)) (
  sc_tc (sc_s_iconst dX3_usesSecond_21 (by decide)) (
  sc_tc (sc_s_goto dX3_usesSecond_22 (by decide)) (
  sc_tc (sc_s_iconst dX3_usesSecond_25 (by decide)) (
  sc_tc (sc_s_retZ dX3_usesSecond_26 rfl) ( trivial))))))))))))))
set_option maxRecDepth 100000 in
set_option maxHeartbeats 4000000 in
theorem ts_X3_move : sc_TS yX3_move cX3_move 3 none st_X3_move :=
  sc_tc (sc_s_iload_n dX3_move_0 rfl) (
  sc_tc (sc_s_iconst dX3_move_1 (by decide)) (
  sc_tc (sc_s_iadd dX3_move_2) (
  sc_tc (sc_s_istore_n dX3_move_3 rfl (by decide)) (
  sc_tc (sc_s_aload_n dX3_move_4 rfl) (
  sc_tc (sc_s_get dX3_move_5 (by decide) (by decide) kF_3_34) (
  sc_tc (sc_s_iload_n dX3_move_8 rfl) (
  sc_tc (sc_s_iconst dX3_move_9 (by decide)) (
  sc_tc (sc_s_bastore dX3_move_10) (
  sc_tc (sc_s_aload_n dX3_move_11 rfl) (
  sc_tc (sc_s_get dX3_move_12 (by decide) (by decide) kF_3_34) (
  sc_tc (sc_s_iload_n dX3_move_15 rfl) (
  sc_tc (sc_s_iconst dX3_move_16 (by decide)) (
  sc_tc (sc_s_bastore dX3_move_17) (
  sc_tc (sc_s_aload_n dX3_move_18 rfl) (
  sc_tc (sc_s_get dX3_move_19 (by decide) (by decide) kF_3_38) (
  sc_tc (sc_s_iload_n dX3_move_22 rfl) (
  sc_tc (sc_s_aload_n dX3_move_23 rfl) (
  sc_tc (sc_s_get dX3_move_24 (by decide) (by decide) kF_3_38) (
  sc_tc (sc_s_iload_n dX3_move_27 rfl) (
  sc_tc (sc_s_iaload dX3_move_28) (
  sc_tc (sc_s_iastore dX3_move_29) (
  sc_tc (sc_s_aload_n dX3_move_30 rfl) (
  sc_tc (sc_s_get dX3_move_31 (by decide) (by decide) kF_3_41) (
  sc_tc (sc_s_iload_n dX3_move_34 rfl) (
  sc_tc (sc_s_aload_n dX3_move_35 rfl) (
  sc_tc (sc_s_get dX3_move_36 (by decide) (by decide) kF_3_41) (
  sc_tc (sc_s_iload_n dX3_move_39 rfl) (
  sc_tc (sc_s_iaload dX3_move_40) (
  sc_tc (sc_s_iastore dX3_move_41) (
  sc_tc (sc_s_aload_n dX3_move_42 rfl) (
  sc_tc (sc_s_get dX3_move_43 (by decide) (by decide) kF_3_44) (
  sc_tc (sc_s_iload_n dX3_move_46 rfl) (
  sc_tc (sc_s_aload_n dX3_move_47 rfl) (
  sc_tc (sc_s_get dX3_move_48 (by decide) (by decide) kF_3_44) (
  sc_tc (sc_s_iload_n dX3_move_51 rfl) (
  sc_tc (sc_s_iaload dX3_move_52) (
  sc_tc (sc_s_iastore dX3_move_53) (
  sc_tc (sc_s_aload_n dX3_move_54 rfl) (
  sc_tc (sc_s_get dX3_move_55 (by decide) (by decide) kF_3_47) (
  sc_tc (sc_s_iload_n dX3_move_58 rfl) (
  sc_tc (sc_s_aload_n dX3_move_59 rfl) (
  sc_tc (sc_s_get dX3_move_60 (by decide) (by decide) kF_3_47) (
  sc_tc (sc_s_iload_n dX3_move_63 rfl) (
  sc_tc (sc_s_iaload dX3_move_64) (
  sc_tc (sc_s_iastore dX3_move_65) (
  sc_tc (sc_s_aload_n dX3_move_66 rfl) (
  sc_tc (sc_s_get dX3_move_67 (by decide) (by decide) kF_3_50) (
  sc_tc (sc_s_iload_n dX3_move_70 rfl) (
  sc_tc (sc_s_aload_n dX3_move_71 rfl) (
  sc_tc (sc_s_get dX3_move_72 (by decide) (by decide) kF_3_50) (
  sc_tc (sc_s_iload_n dX3_move_75 rfl) (
  sc_tc (sc_s_iaload dX3_move_76) (
  sc_tc (sc_s_iastore dX3_move_77) (
  sc_tc (sc_s_aload_n dX3_move_78 rfl) (
  sc_tc (sc_s_get dX3_move_79 (by decide) (by decide) kF_3_53) (
  sc_tc (sc_s_iload_n dX3_move_82 rfl) (
  sc_tc (sc_s_aload_n dX3_move_83 rfl) (
  sc_tc (sc_s_get dX3_move_84 (by decide) (by decide) kF_3_53) (
  sc_tc (sc_s_iload_n dX3_move_87 rfl) (
  sc_tc (sc_s_iaload dX3_move_88) (
  sc_tc (sc_s_iastore dX3_move_89) (
  sc_tc (sc_s_aload_n dX3_move_90 rfl) (
  sc_tc (sc_s_get dX3_move_91 (by decide) (by decide) kF_3_56) (
  sc_tc (sc_s_iload_n dX3_move_94 rfl) (
  sc_tc (sc_s_aload_n dX3_move_95 rfl) (
  sc_tc (sc_s_get dX3_move_96 (by decide) (by decide) kF_3_56) (
  sc_tc (sc_s_iload_n dX3_move_99 rfl) (
  sc_tc (sc_s_iaload dX3_move_100) (
  sc_tc (sc_s_iastore dX3_move_101) (
  sc_tc (sc_s_aload_n dX3_move_102 rfl) (
  sc_tc (sc_s_get dX3_move_103 (by decide) (by decide) kF_3_59) (
  sc_tc (sc_s_iload_n dX3_move_106 rfl) (
  sc_tc (sc_s_aload_n dX3_move_107 rfl) (
  sc_tc (sc_s_get dX3_move_108 (by decide) (by decide) kF_3_59) (
  sc_tc (sc_s_iload_n dX3_move_111 rfl) (
  sc_tc (sc_s_iaload dX3_move_112) (
  sc_tc (sc_s_iastore dX3_move_113) (
  sc_tc (sc_s_aload_n dX3_move_114 rfl) (
  sc_tc (sc_s_get dX3_move_115 (by decide) (by decide) kF_3_62) (
  sc_tc (sc_s_iload_n dX3_move_118 rfl) (
  sc_tc (sc_s_aload_n dX3_move_119 rfl) (
  sc_tc (sc_s_get dX3_move_120 (by decide) (by decide) kF_3_62) (
  sc_tc (sc_s_iload_n dX3_move_123 rfl) (
  sc_tc (sc_s_iaload dX3_move_124) (
  sc_tc (sc_s_iastore dX3_move_125) (
  sc_tc (sc_s_aload_n dX3_move_126 rfl) (
  sc_tc (sc_s_get dX3_move_127 (by decide) (by decide) kF_3_65) (
  sc_tc (sc_s_iload_n dX3_move_130 rfl) (
  sc_tc (sc_s_aload_n dX3_move_131 rfl) (
  sc_tc (sc_s_get dX3_move_132 (by decide) (by decide) kF_3_65) (
  sc_tc (sc_s_iload_n dX3_move_135 rfl) (
  sc_tc (sc_s_iaload dX3_move_136) (
  sc_tc (sc_s_iastore dX3_move_137) (
  sc_tc (sc_s_retV dX3_move_138 rfl) ( trivial)))))))))))))))))))))))))))))))))))))))))))))))))))))))))))))))))))))))))))))))))))))))))))))))
set_option maxRecDepth 100000 in
set_option maxHeartbeats 4000000 in
theorem ts_X3_leave : sc_TS yX3_leave cX3_leave 2 (some .boolean) st_X3_leave :=
  sc_tc (sc_s_aload_n dX3_leave_0 rfl) (
  sc_tc (sc_s_get dX3_leave_1 (by decide) (by decide) kF_3_34) (
  sc_tc (sc_s_iconst dX3_leave_4 (by decide)) (
  sc_tc (sc_s_baload dX3_leave_5) (
  sc_tc (sc_s_if_ne dX3_leave_6 (by decide)) (
  sc_tc (sc_s_iconst dX3_leave_9 (by decide)) (
  sc_tc (sc_s_retZ dX3_leave_10 rfl) (
  sc_tc (sc_s_aload_n dX3_leave_11 rfl) (
  sc_tc (sc_s_get dX3_leave_12 (by decide) (by decide) kF_3_34) (
  sc_tc (sc_s_iconst dX3_leave_15 (by decide)) (
  sc_tc (sc_s_iconst dX3_leave_16 (by decide)) (
  sc_tc (sc_s_bastore dX3_leave_17) (
  sc_tc (sc_s_aload_n dX3_leave_18 rfl) (
  sc_tc (sc_s_get dX3_leave_19 (by decide) (by decide) kF_3_65) (
  sc_tc (sc_s_iconst dX3_leave_22 (by decide)) (
  sc_tc (sc_s_iaload dX3_leave_23) (
  sc_tc (sc_s_if_le dX3_leave_24 (by decide)) (
  sc_tc (sc_s_aload_n dX3_leave_27 rfl) (
  sc_tc (sc_s_dup dX3_leave_28) (
  sc_tc (sc_s_get dX3_leave_29 (by decide) (by decide) kF_3_95) (
  sc_tc (sc_s_iconst dX3_leave_32 (by decide)) (
  sc_tc (sc_s_iadd dX3_leave_33) (
  sc_tc (sc_s_putI dX3_leave_34 (Or.inr (Or.inr rfl)) (by decide) rfl rfl (by decide +kernel) kF_3_95) (
  sc_tc (sc_s_aload_n dX3_leave_37 rfl) (
  sc_tc (sc_s_aload_n dX3_leave_38 rfl) (
  sc_tc (sc_s_get dX3_leave_39 (by decide) (by decide) kF_3_65) (
  sc_tc (sc_s_iconst dX3_leave_42 (by decide)) (
  sc_tc (sc_s_iaload dX3_leave_43) (
  sc_tc (sc_s_putI dX3_leave_44 (Or.inr (Or.inr rfl)) (by decide) rfl rfl (by decide +kernel) kF_3_98) (
  sc_tc (sc_s_aload_n dX3_leave_47 rfl) (
  sc_tc (sc_s_aload_n dX3_leave_48 rfl) (
  sc_tc (sc_s_get dX3_leave_49 (by decide) (by decide) kF_3_38) (
  sc_tc (sc_s_iconst dX3_leave_52 (by decide)) (
  sc_tc (sc_s_iaload dX3_leave_53) (
  sc_tc (sc_s_putI dX3_leave_54 (Or.inr (Or.inr rfl)) (by decide) rfl rfl (by decide +kernel) kF_3_101) (
  sc_tc (sc_s_aload_n dX3_leave_57 rfl) (
  sc_tc (sc_s_aload_n dX3_leave_58 rfl) (
  sc_tc (sc_s_get dX3_leave_59 (by decide) (by decide) kF_3_92) (
  sc_tc (sc_s_putI dX3_leave_62 (Or.inr (Or.inr rfl)) (by decide) rfl rfl (by decide +kernel) kF_3_85) (
  sc_tc (sc_s_aload_n dX3_leave_65 rfl) (
  sc_tc (sc_s_inv dX3_leave_66 mo_50 (by decide) rfl kM_3_82 kI_50 kL_50) (
  sc_tc (sc_s_iconst dX3_leave_69 (by decide)) (
  sc_tc (sc_s_retZ dX3_leave_70 rfl) (
  sc_tc (sc_s_aload_n dX3_leave_71 rfl) (
  sc_tc (sc_s_get dX3_leave_72 (by decide) (by decide) kF_3_41) (
  sc_tc (sc_s_iconst dX3_leave_75 (by decide)) (
  sc_tc (sc_s_iaload dX3_leave_76) (
  sc_tc (sc_s_bipush dX3_leave_77 (by decide)) (
  sc_tc (sc_s_icmp_ne dX3_leave_79 (by decide)) (
  sc_tc (sc_s_aload_n dX3_leave_82 rfl) (
  sc_tc (sc_s_iconst dX3_leave_83 (by decide)) (
  sc_tc (sc_s_putZ dX3_leave_84 (Or.inr (Or.inr rfl)) (by decide) rfl rfl (by decide +kernel) kF_3_88) (
  sc_tc (sc_s_aload_n dX3_leave_87 rfl) (
  sc_tc (sc_s_inv dX3_leave_88 mo_50 (by decide) rfl kM_3_82 kI_50 kL_50) (
  sc_tc (sc_s_iconst dX3_leave_91 (by decide)) (
  sc_tc (sc_s_retZ dX3_leave_92 rfl) (
  sc_tc (sc_s_aload_n dX3_leave_93 rfl) (
  sc_tc (sc_s_get dX3_leave_94 (by decide) (by decide) kF_3_41) (
  sc_tc (sc_s_iconst dX3_leave_97 (by decide)) (
  sc_tc (sc_s_iaload dX3_leave_98) (
  sc_tc (sc_s_ins dX3_leave_99 mo_53 kM_3_104 kS_53) (
  sc_tc (sc_s_if_eq dX3_leave_102 (by decide)) (
  sc_tc (sc_s_aload_n dX3_leave_105 rfl) (
  sc_tc (sc_s_get dX3_leave_106 (by decide) (by decide) kF_3_44) (
  sc_tc (sc_s_iconst dX3_leave_109 (by decide)) (
  sc_tc (sc_s_iaload dX3_leave_110) (
  sc_tc (sc_s_if_eq dX3_leave_111 (by decide)) (
  sc_tc (sc_s_aload_n dX3_leave_114 rfl) (
  sc_tc (sc_s_get dX3_leave_115 (by decide) (by decide) kF_3_28) (
  sc_tc (sc_s_aload_n dX3_leave_118 rfl) (
  sc_tc (sc_s_get dX3_leave_119 (by decide) (by decide) kF_3_44) (
  sc_tc (sc_s_iconst dX3_leave_122 (by decide)) (
  sc_tc (sc_s_iaload dX3_leave_123) (
  sc_tc (sc_s_aload_n dX3_leave_124 rfl) (
  sc_tc (sc_s_get dX3_leave_125 (by decide) (by decide) kF_3_59) (
  sc_tc (sc_s_iconst dX3_leave_128 (by decide)) (
  sc_tc (sc_s_iaload dX3_leave_129) (
  sc_tc (sc_s_iastore dX3_leave_130) (
  sc_tc (sc_s_aload_n dX3_leave_131 rfl) (
  sc_tc (sc_s_dup dX3_leave_132) (
  sc_tc (sc_s_get dX3_leave_133 (by decide) (by decide) kF_3_108) (
  sc_tc (sc_s_iconst dX3_leave_136 (by decide)) (
  sc_tc (sc_s_iadd dX3_leave_137) (
  sc_tc (sc_s_putI dX3_leave_138 (Or.inr (Or.inr rfl)) (by decide) rfl rfl (by decide +kernel) kF_3_108) (
  sc_tc (sc_s_bipush dX3_leave_141 (by decide)) (
  sc_tc (sc_s_istore_n dX3_leave_143 rfl (by decide)) (
  sc_tc (sc_s_iload_n dX3_leave_144 rfl) (
  sc_tc (sc_s_if_le dX3_leave_145 (by decide)) (
  sc_tc (sc_s_aload_n dX3_leave_148 rfl) (
  sc_tc (sc_s_get dX3_leave_149 (by decide) (by decide) kF_3_68) (
  sc_tc (sc_s_iload_n dX3_leave_152 rfl) (
  sc_tc (sc_s_aload_n dX3_leave_153 rfl) (
  sc_tc (sc_s_get dX3_leave_154 (by decide) (by decide) kF_3_68) (
  sc_tc (sc_s_iload_n dX3_leave_157 rfl) (
  sc_tc (sc_s_iconst dX3_leave_158 (by decide)) (
  sc_tc (sc_s_isub dX3_leave_159) (
  sc_tc (sc_s_iaload dX3_leave_160) (
  sc_tc (sc_s_iastore dX3_leave_161) (
  sc_tc (sc_s_iinc dX3_leave_162 (by decide) (by decide)) (
  sc_tc (sc_s_goto dX3_leave_165 (by decide)) (
  sc_tc (sc_s_aload_n dX3_leave_168 rfl) (
  sc_tc (sc_s_get dX3_leave_169 (by decide) (by decide) kF_3_68) (
  sc_tc (sc_s_iconst dX3_leave_172 (by decide)) (
  sc_tc (sc_s_aload_n dX3_leave_173 rfl) (
  sc_tc (sc_s_get dX3_leave_174 (by decide) (by decide) kF_3_38) (
  sc_tc (sc_s_iconst dX3_leave_177 (by decide)) (
  sc_tc (sc_s_iaload dX3_leave_178) (
  sc_tc (sc_s_iastore dX3_leave_179) (
  sc_tc (sc_s_aload_n dX3_leave_180 rfl) (
  sc_tc (sc_s_aload_n dX3_leave_181 rfl) (
  sc_tc (sc_s_get dX3_leave_182 (by decide) (by decide) kF_3_111) (
  sc_tc (sc_s_bipush dX3_leave_185 (by decide)) (
  sc_tc (sc_s_icmp_ge dX3_leave_187 (by decide)) (
  sc_tc (sc_s_aload_n dX3_leave_190 rfl) (
  sc_tc (sc_s_get dX3_leave_191 (by decide) (by decide) kF_3_111) (
  sc_tc (sc_s_iconst dX3_leave_194 (by decide)) (
  sc_tc (sc_s_iadd dX3_leave_195) (
  sc_tc (sc_s_goto dX3_leave_196 (by decide)) (
  sc_tc (sc_s_bipush dX3_leave_199 (by decide)) (
  sc_tc (sc_s_putI dX3_leave_201 (Or.inr (Or.inr rfl)) (by decide) rfl rfl (by decide +kernel) kF_3_111) (
  sc_tc (sc_s_iconst dX3_leave_204 (by decide)) (
  sc_tc (sc_s_retZ dX3_leave_205 rfl) ( trivial))))))))))))))))))))))))))))))))))))))))))))))))))))))))))))))))))))))))))))))))))))))))))))))))))))))))))))))))))))))))))
set_option maxRecDepth 100000 in
set_option maxHeartbeats 4000000 in
theorem ts_X3_remember : sc_TS yX3_remember cX3_remember 1 none st_X3_remember :=
  sc_tc (sc_s_aload_n dX3_remember_0 rfl) (
  sc_tc (sc_s_get dX3_remember_1 (by decide) (by decide) kF_3_34) (
  sc_tc (sc_s_iconst dX3_remember_4 (by decide)) (
  sc_tc (sc_s_baload dX3_remember_5) (
  sc_tc (sc_s_if_ne dX3_remember_6 (by decide)) (
  sc_tc (sc_s_retV dX3_remember_9 rfl) (
  sc_tc (sc_s_aload_n dX3_remember_10 rfl) (
  sc_tc (sc_s_iconst dX3_remember_11 (by decide)) (
  sc_tc (sc_s_inv dX3_remember_12 mo_56 (by decide) rfl kM_3_114 kI_56 kL_56) (
  sc_tc (sc_s_aload_n dX3_remember_15 rfl) (
  sc_tc (sc_s_get dX3_remember_16 (by decide) (by decide) kF_3_65) (
  sc_tc (sc_s_iconst dX3_remember_19 (by decide)) (
  sc_tc (sc_s_iaload dX3_remember_20) (
  sc_tc (sc_s_if_ne dX3_remember_21 (by decide)) (
  sc_tc (sc_s_aload_n dX3_remember_24 rfl) (
  sc_tc (sc_s_get dX3_remember_25 (by decide) (by decide) kF_3_41) (
  sc_tc (sc_s_iconst dX3_remember_28 (by decide)) (
  sc_tc (sc_s_iaload dX3_remember_29) (
  sc_tc (sc_s_bipush dX3_remember_30 (by decide)) (
  sc_tc (sc_s_icmp_ne dX3_remember_32 (by decide)) (
  sc_tc (sc_s_aload_n dX3_remember_35 rfl) (
  sc_tc (sc_s_get dX3_remember_36 (by decide) (by decide) kF_3_59) (
  sc_tc (sc_s_iconst dX3_remember_39 (by decide)) (
  sc_tc (sc_s_aload_n dX3_remember_40 rfl) (
  sc_tc (sc_s_get dX3_remember_41 (by decide) (by decide) kF_3_25) (
  sc_tc (sc_s_aload_n dX3_remember_44 rfl) (
  sc_tc (sc_s_get dX3_remember_45 (by decide) (by decide) kF_3_62) (
  sc_tc (sc_s_iconst dX3_remember_48 (by decide)) (
  sc_tc (sc_s_iaload dX3_remember_49) (
  sc_tc (sc_s_iaload dX3_remember_50) (
  sc_tc (sc_s_iastore dX3_remember_51) (
  sc_tc (sc_s_aload_n dX3_remember_52 rfl) (
  sc_tc (sc_s_get dX3_remember_53 (by decide) (by decide) kF_3_65) (
  sc_tc (sc_s_iconst dX3_remember_56 (by decide)) (
  sc_tc (sc_s_iaload dX3_remember_57) (
  sc_tc (sc_s_if_ne dX3_remember_58 (by decide)) (
  sc_tc (sc_s_aload_n dX3_remember_61 rfl) (
  sc_tc (sc_s_get dX3_remember_62 (by decide) (by decide) kF_3_41) (
  sc_tc (sc_s_iconst dX3_remember_65 (by decide)) (
  sc_tc (sc_s_iaload dX3_remember_66) (
  sc_tc (sc_s_bipush dX3_remember_67 (by decide)) (
  sc_tc (sc_s_icmp_ne dX3_remember_69 (by decide)) (
  sc_tc (sc_s_aload_n dX3_remember_72 rfl) (
  sc_tc (sc_s_get dX3_remember_73 (by decide) (by decide) kF_3_25) (
  sc_tc (sc_s_aload_n dX3_remember_76 rfl) (
  sc_tc (sc_s_get dX3_remember_77 (by decide) (by decide) kF_3_62) (
  sc_tc (sc_s_iconst dX3_remember_80 (by decide)) (
  sc_tc (sc_s_iaload dX3_remember_81) (
  sc_tc (sc_s_aload_n dX3_remember_82 rfl) (
  sc_tc (sc_s_get dX3_remember_83 (by decide) (by decide) kF_3_59) (
  sc_tc (sc_s_iconst dX3_remember_86 (by decide)) (
  sc_tc (sc_s_iaload dX3_remember_87) (
  sc_tc (sc_s_iastore dX3_remember_88) (
  sc_tc (sc_s_retV dX3_remember_89 rfl) ( trivial))))))))))))))))))))))))))))))))))))))))))))))))))))))
set_option maxRecDepth 100000 in
set_option maxHeartbeats 4000000 in
theorem ts_X3_read : sc_TS yX3_read cX3_read 3 (some .int) st_X3_read :=
  sc_tc (sc_s_aload_n dX3_read_0 rfl) (
  sc_tc (sc_s_get dX3_read_1 (by decide) (by decide) kF_3_34) (
  sc_tc (sc_s_iconst dX3_read_4 (by decide)) (
  sc_tc (sc_s_baload dX3_read_5) (
  sc_tc (sc_s_if_eq dX3_read_6 (by decide)) (
  sc_tc (sc_s_aload_n dX3_read_9 rfl) (
  sc_tc (sc_s_get dX3_read_10 (by decide) (by decide) kF_3_65) (
  sc_tc (sc_s_iconst dX3_read_13 (by decide)) (
  sc_tc (sc_s_iaload dX3_read_14) (
  sc_tc (sc_s_if_ne dX3_read_15 (by decide)) (
  sc_tc (sc_s_aload_n dX3_read_18 rfl) (
  sc_tc (sc_s_get dX3_read_19 (by decide) (by decide) kF_3_41) (
  sc_tc (sc_s_iconst dX3_read_22 (by decide)) (
  sc_tc (sc_s_iaload dX3_read_23) (
  sc_tc (sc_s_ins dX3_read_24 mo_53 kM_3_104 kS_53) (
  sc_tc (sc_s_if_eq dX3_read_27 (by decide)) (
  sc_tc (sc_s_aload_n dX3_read_30 rfl) (
  sc_tc (sc_s_get dX3_read_31 (by decide) (by decide) kF_3_44) (
  sc_tc (sc_s_iconst dX3_read_34 (by decide)) (
  sc_tc (sc_s_iaload dX3_read_35) (
  sc_tc (sc_s_iload_n dX3_read_36 rfl) (
  sc_tc (sc_s_icmp_ne dX3_read_37 (by decide)) (
  sc_tc (sc_s_iload_n dX3_read_40 rfl) (
  sc_tc (sc_s_if_eq dX3_read_41 (by decide)) (
  sc_tc (sc_s_iconst dX3_read_44 (by decide)) (
  sc_tc (sc_s_goto dX3_read_45 (by decide)) (
  sc_tc (sc_s_iconst dX3_read_48 (by decide)) (
  sc_tc (sc_s_istore_n dX3_read_49 rfl (by decide)) (
  sc_tc (sc_s_iload_n dX3_read_50 rfl) (
  sc_tc (sc_s_if_eq dX3_read_51 (by decide)) (
  sc_tc (sc_s_aload_n dX3_read_54 rfl) (
  sc_tc (sc_s_get dX3_read_55 (by decide) (by decide) kF_3_59) (
  sc_tc (sc_s_iconst dX3_read_58 (by decide)) (
  sc_tc (sc_s_iaload dX3_read_59) (
  sc_tc (sc_s_goto dX3_read_60 (by decide)) (
  sc_tc (sc_s_aload_n dX3_read_63 rfl) (
  sc_tc (sc_s_get dX3_read_64 (by decide) (by decide) kF_3_28) (
  sc_tc (sc_s_iload_n dX3_read_67 rfl) (
  sc_tc (sc_s_iaload dX3_read_68) (
  sc_tc (sc_s_retI dX3_read_69 rfl) ( trivial))))))))))))))))))))))))))))))))))))))))
set_option maxRecDepth 100000 in
set_option maxHeartbeats 4000000 in
theorem ts_X3_reckon : sc_TS yX3_reckon cX3_reckon 3 (some .int) st_X3_reckon :=
  sc_tc (sc_s_iload_n dX3_reckon_0 rfl) (
  sc_tc (sc_s_sw dX3_reckon_1 (by decide) (by decide) (by decide +kernel)) (
  sc_tc (sc_s_iload_n dX3_reckon_48 rfl) (
  sc_tc (sc_s_iload_n dX3_reckon_49 rfl) (
  sc_tc (sc_s_iadd dX3_reckon_50) (
  sc_tc (sc_s_retI dX3_reckon_51 rfl) (
  sc_tc (sc_s_iload_n dX3_reckon_52 rfl) (
  sc_tc (sc_s_iload_n dX3_reckon_53 rfl) (
  sc_tc (sc_s_isub dX3_reckon_54) (
  sc_tc (sc_s_retI dX3_reckon_55 rfl) (
  sc_tc (sc_s_iload_n dX3_reckon_56 rfl) (
  sc_tc (sc_s_iload_n dX3_reckon_57 rfl) (
  sc_tc (sc_s_iand dX3_reckon_58) (
  sc_tc (sc_s_retI dX3_reckon_59 rfl) (
  sc_tc (sc_s_iload_n dX3_reckon_60 rfl) (
  sc_tc (sc_s_iload_n dX3_reckon_61 rfl) (
  sc_tc (sc_s_ior dX3_reckon_62) (
  sc_tc (sc_s_retI dX3_reckon_63 rfl) (
  sc_tc (sc_s_iload_n dX3_reckon_64 rfl) (
  sc_tc (sc_s_iload_n dX3_reckon_65 rfl) (
  sc_tc (sc_s_ixor dX3_reckon_66) (
  sc_tc (sc_s_retI dX3_reckon_67 rfl) (
  sc_tc (sc_s_iload_n dX3_reckon_68 rfl) (
  sc_tc (sc_s_iload_n dX3_reckon_69 rfl) (
  sc_tc (sc_s_bipush dX3_reckon_70 (by decide)) (
  sc_tc (sc_s_iand dX3_reckon_72) (
  sc_tc (sc_s_ishl dX3_reckon_73) (
  sc_tc (sc_s_retI dX3_reckon_74 rfl) (
  sc_tc (sc_s_iload_n dX3_reckon_75 rfl) (
  sc_tc (sc_s_iload_n dX3_reckon_76 rfl) (
  sc_tc (sc_s_icmp_ge dX3_reckon_77 (by decide)) (
  sc_tc (sc_s_iconst dX3_reckon_80 (by decide)) (
  sc_tc (sc_s_goto dX3_reckon_81 (by decide)) (
  sc_tc (sc_s_iconst dX3_reckon_84 (by decide)) (
  sc_tc (sc_s_retI dX3_reckon_85 rfl) (
  sc_tc (sc_s_iload_n dX3_reckon_86 rfl) (
  sc_tc (sc_s_iload_n dX3_reckon_87 rfl) (
  sc_tc (sc_s_imul dX3_reckon_88) (
  sc_tc (sc_s_retI dX3_reckon_89 rfl) (
  sc_tc (sc_s_iload_n dX3_reckon_90 rfl) (
  sc_tc (sc_s_if_ne dX3_reckon_91 (by decide)) (
  sc_tc (sc_s_iconst dX3_reckon_94 (by decide)) (
  sc_tc (sc_s_goto dX3_reckon_95 (by decide)) (
  sc_tc (sc_s_iload_n dX3_reckon_98 rfl) (
  sc_tc (sc_s_iload_n dX3_reckon_99 rfl) (
  sc_tc (sc_s_idiv dX3_reckon_100) (
  sc_tc (sc_s_retI dX3_reckon_101 rfl) ( trivial)))))))))))))))))))))))))))))))))))))))))))))))
set_option maxRecDepth 100000 in
set_option maxHeartbeats 4000000 in
theorem ts_X3_work : sc_TS yX3_work cX3_work 10 (some .int) st_X3_work :=
  sc_tc (sc_s_aload_n dX3_work_0 rfl) (
  sc_tc (sc_s_get dX3_work_1 (by decide) (by decide) kF_3_41) (
  sc_tc (sc_s_iconst dX3_work_4 (by decide)) (
  sc_tc (sc_s_iaload dX3_work_5) (
  sc_tc (sc_s_istore_n dX3_work_6 rfl (by decide)) (
  sc_tc (sc_s_aload_n dX3_work_7 rfl) (
  sc_tc (sc_s_aload_n dX3_work_8 rfl) (
  sc_tc (sc_s_get dX3_work_9 (by decide) (by decide) kF_3_47) (
  sc_tc (sc_s_iconst dX3_work_12 (by decide)) (
  sc_tc (sc_s_iaload dX3_work_13) (
  sc_tc (sc_s_inv dX3_work_14 mo_59 (by decide) rfl kM_3_118 kI_59 kL_59) (
  sc_tc (sc_s_istore_n dX3_work_17 rfl (by decide)) (
  sc_tc (sc_s_aload_n dX3_work_18 rfl) (
  sc_tc (sc_s_aload_n dX3_work_19 rfl) (
  sc_tc (sc_s_get dX3_work_20 (by decide) (by decide) kF_3_50) (
  sc_tc (sc_s_iconst dX3_work_23 (by decide)) (
  sc_tc (sc_s_iaload dX3_work_24) (
  sc_tc (sc_s_inv dX3_work_25 mo_59 (by decide) rfl kM_3_118 kI_59 kL_59) (
  sc_tc (sc_s_istore_n dX3_work_28 rfl (by decide)) (
  sc_tc (sc_s_aload_n dX3_work_29 rfl) (
  sc_tc (sc_s_get dX3_work_30 (by decide) (by decide) kF_3_38) (
  sc_tc (sc_s_iconst dX3_work_33 (by decide)) (
  sc_tc (sc_s_iaload dX3_work_34) (
  sc_tc (sc_s_istore dX3_work_35 (by decide)) (
  sc_tc (sc_s_aload_n dX3_work_37 rfl) (
  sc_tc (sc_s_get dX3_work_38 (by decide) (by decide) kF_3_53) (
  sc_tc (sc_s_iconst dX3_work_41 (by decide)) (
  sc_tc (sc_s_iaload dX3_work_42) (
  sc_tc (sc_s_istore dX3_work_43 (by decide)) (
  sc_tc (sc_s_iload dX3_work_45) (
  sc_tc (sc_s_iconst dX3_work_47 (by decide)) (
  sc_tc (sc_s_iadd dX3_work_48) (
  sc_tc (sc_s_istore dX3_work_49 (by decide)) (
  sc_tc (sc_s_iconst dX3_work_51 (by decide)) (
  sc_tc (sc_s_istore dX3_work_52 (by decide)) (
  sc_tc (sc_s_iload_n dX3_work_54 rfl) (
  sc_tc (sc_s_bipush dX3_work_55 (by decide)) (
  sc_tc (sc_s_icmp_gt dX3_work_57 (by decide)) (
  sc_tc (sc_s_iload_n dX3_work_60 rfl) (
  sc_tc (sc_s_iload_n dX3_work_61 rfl) (
  sc_tc (sc_s_iload_n dX3_work_62 rfl) (
  sc_tc (sc_s_ins dX3_work_63 mo_60 kM_3_122 kS_60) (
  sc_tc (sc_s_istore dX3_work_66 (by decide)) (
  sc_tc (sc_s_aload_n dX3_work_68 rfl) (
  sc_tc (sc_s_get dX3_work_69 (by decide) (by decide) kF_3_65) (
  sc_tc (sc_s_iconst dX3_work_72 (by decide)) (
  sc_tc (sc_s_iload_n dX3_work_73 rfl) (
  sc_tc (sc_s_bipush dX3_work_74 (by decide)) (
  sc_tc (sc_s_icmp_ne dX3_work_76 (by decide)) (
  sc_tc (sc_s_iload_n dX3_work_79 rfl) (
  sc_tc (sc_s_if_ne dX3_work_80 (by decide)) (
  sc_tc (sc_s_iconst dX3_work_83 (by decide)) (
  sc_tc (sc_s_goto dX3_work_84 (by decide)) (
  sc_tc (sc_s_aload_n dX3_work_87 rfl) (
  sc_tc (sc_s_get dX3_work_88 (by decide) (by decide) kF_3_65) (
  sc_tc (sc_s_iconst dX3_work_91 (by decide)) (
  sc_tc (sc_s_iaload dX3_work_92) (
  sc_tc (sc_s_iastore dX3_work_93) (
  sc_tc (sc_s_goto dX3_work_94 (by decide)) (
  sc_tc (sc_s_iload_n dX3_work_97 rfl) (
  sc_tc (sc_s_bipush dX3_work_98 (by decide)) (
  sc_tc (sc_s_icmp_eq dX3_work_100 (by decide)) (
  sc_tc (sc_s_iload_n dX3_work_103 rfl) (
  sc_tc (sc_s_bipush dX3_work_104 (by decide)) (
  sc_tc (sc_s_icmp_ne dX3_work_106 (by decide)) (
  sc_tc (sc_s_iload_n dX3_work_109 rfl) (
  sc_tc (sc_s_bipush dX3_work_110 (by decide)) (
  sc_tc (sc_s_icmp_ne dX3_work_112 (by decide)) (
  sc_tc (sc_s_iload dX3_work_115) (
  sc_tc (sc_s_goto dX3_work_117 (by decide)) (
  sc_tc (sc_s_iload_n dX3_work_120 rfl) (
  sc_tc (sc_s_iload dX3_work_121) (
  sc_tc (sc_s_iadd dX3_work_123) (
  sc_tc (sc_s_istore dX3_work_124 (by decide)) (
  sc_tc (sc_s_goto dX3_work_126 (by decide)) (
  sc_tc (sc_s_iload_n dX3_work_129 rfl) (
  sc_tc (sc_s_bipush dX3_work_130 (by decide)) (
  sc_tc (sc_s_icmp_eq dX3_work_132 (by decide)) (
  sc_tc (sc_s_iload_n dX3_work_135 rfl) (
  sc_tc (sc_s_bipush dX3_work_136 (by decide)) (
  sc_tc (sc_s_icmp_ne dX3_work_138 (by decide)) (
  sc_tc (sc_s_aload_n dX3_work_141 rfl) (
  sc_tc (sc_s_get dX3_work_142 (by decide) (by decide) kF_3_62) (
  sc_tc (sc_s_iconst dX3_work_145 (by decide)) (
  sc_tc (sc_s_iload_n dX3_work_146 rfl) (
  sc_tc (sc_s_iload dX3_work_147) (
  sc_tc (sc_s_iadd dX3_work_149) (
  sc_tc (sc_s_iastore dX3_work_150) (
  sc_tc (sc_s_iload_n dX3_work_151 rfl) (
  sc_tc (sc_s_istore dX3_work_152 (by decide)) (
  sc_tc (sc_s_aload_n dX3_work_154 rfl) (
  sc_tc (sc_s_get dX3_work_155 (by decide) (by decide) kF_3_65) (
  sc_tc (sc_s_iconst dX3_work_158 (by decide)) (
  sc_tc (sc_s_iload_n dX3_work_159 rfl) (
  sc_tc (sc_s_iload dX3_work_160) (
  sc_tc (sc_s_iadd dX3_work_162) (
  sc_tc (sc_s_iconst dX3_work_163 (by decide)) (
  sc_tc (sc_s_bipush dX3_work_164 (by decide)) (
  sc_tc (sc_s_ins dX3_work_166 mo_44 kM_3_79 kS_44) (
  sc_tc (sc_s_if_eq dX3_work_169 (by decide)) (
  sc_tc (sc_s_aload_n dX3_work_172 rfl) (
  sc_tc (sc_s_get dX3_work_173 (by decide) (by decide) kF_3_65) (
  sc_tc (sc_s_iconst dX3_work_176 (by decide)) (
  sc_tc (sc_s_iaload dX3_work_177) (
  sc_tc (sc_s_goto dX3_work_178 (by decide)) (
  sc_tc (sc_s_iconst dX3_work_181 (by decide)) (
  sc_tc (sc_s_iastore dX3_work_182) (
  sc_tc (sc_s_goto dX3_work_183 (by decide)) (
  sc_tc (sc_s_iload_n dX3_work_186 rfl) (
  sc_tc (sc_s_bipush dX3_work_187 (by decide)) (
  sc_tc (sc_s_icmp_eq dX3_work_189 (by decide)) (
  sc_tc (sc_s_iload_n dX3_work_192 rfl) (
  sc_tc (sc_s_bipush dX3_work_193 (by decide)) (
  sc_tc (sc_s_icmp_ne dX3_work_195 (by decide)) (
  sc_tc (sc_s_iload_n dX3_work_198 rfl) (
  sc_tc (sc_s_iload_n dX3_work_199 rfl) (
  sc_tc (sc_s_icmp_ne dX3_work_200 (by decide)) (
  sc_tc (sc_s_iconst dX3_work_203 (by decide)) (
  sc_tc (sc_s_goto dX3_work_204 (by decide)) (
  sc_tc (sc_s_iconst dX3_work_207 (by decide)) (
  sc_tc (sc_s_iload_n dX3_work_208 rfl) (
  sc_tc (sc_s_bipush dX3_work_209 (by decide)) (
  sc_tc (sc_s_icmp_ne dX3_work_211 (by decide)) (
  sc_tc (sc_s_iconst dX3_work_214 (by decide)) (
  sc_tc (sc_s_goto dX3_work_215 (by decide)) (
  sc_tc (sc_s_iconst dX3_work_218 (by decide)) (
  sc_tc (sc_s_icmp_ne dX3_work_219 (by decide)) (
  sc_tc (sc_s_iconst dX3_work_222 (by decide)) (
  sc_tc (sc_s_goto dX3_work_223 (by decide)) (
  sc_tc (sc_s_iconst dX3_work_226 (by decide)) (
  sc_tc (sc_s_istore dX3_work_227 (by decide)) (
  sc_tc (sc_s_iload dX3_work_229) (
  sc_tc (sc_s_bipush dX3_work_231 (by decide)) (
  sc_tc (sc_s_iand dX3_work_233) (
  sc_tc (sc_s_istore dX3_work_234 (by decide)) (
  sc_tc (sc_s_aload_n dX3_work_236 rfl) (
  sc_tc (sc_s_get dX3_work_237 (by decide) (by decide) kF_3_31) (
  sc_tc (sc_s_iload dX3_work_240) (
  sc_tc (sc_s_iload dX3_work_242) (
  sc_tc (sc_s_if_eq dX3_work_244 (by decide)) (
  sc_tc (sc_s_aload_n dX3_work_247 rfl) (
  sc_tc (sc_s_get dX3_work_248 (by decide) (by decide) kF_3_31) (
  sc_tc (sc_s_iload dX3_work_251) (
  sc_tc (sc_s_iaload dX3_work_253) (
  sc_tc (sc_s_iconst dX3_work_254 (by decide)) (
  sc_tc (sc_s_icmp_ge dX3_work_255 (by decide)) (
  sc_tc (sc_s_aload_n dX3_work_258 rfl) (
  sc_tc (sc_s_get dX3_work_259 (by decide) (by decide) kF_3_31) (
  sc_tc (sc_s_iload dX3_work_262) (
  sc_tc (sc_s_iaload dX3_work_264) (
  sc_tc (sc_s_iconst dX3_work_265 (by decide)) (
  sc_tc (sc_s_iadd dX3_work_266) (
  sc_tc (sc_s_goto dX3_work_267 (by decide)) (
  sc_tc (sc_s_iconst dX3_work_270 (by decide)) (
  sc_tc (sc_s_goto dX3_work_271 (by decide)) (
  sc_tc (sc_s_aload_n dX3_work_274 rfl) (
  sc_tc (sc_s_get dX3_work_275 (by decide) (by decide) kF_3_31) (
  sc_tc (sc_s_iload dX3_work_278) (
  sc_tc (sc_s_iaload dX3_work_280) (
  sc_tc (sc_s_if_le dX3_work_281 (by decide)) (
  sc_tc (sc_s_aload_n dX3_work_284 rfl) (
  sc_tc (sc_s_get dX3_work_285 (by decide) (by decide) kF_3_31) (
  sc_tc (sc_s_iload dX3_work_288) (
  sc_tc (sc_s_iaload dX3_work_290) (
  sc_tc (sc_s_iconst dX3_work_291 (by decide)) (
  sc_tc (sc_s_isub dX3_work_292) (
  sc_tc (sc_s_goto dX3_work_293 (by decide)) (
  sc_tc (sc_s_iconst dX3_work_296 (by decide)) (
  sc_tc (sc_s_iastore dX3_work_297) (
  sc_tc (sc_s_iload dX3_work_298) (
  sc_tc (sc_s_if_eq dX3_work_300 (by decide)) (
  sc_tc (sc_s_iload dX3_work_303) (
  sc_tc (sc_s_iload dX3_work_305) (
  sc_tc (sc_s_iadd dX3_work_307) (
  sc_tc (sc_s_goto dX3_work_308 (by decide)) (
  sc_tc (sc_s_iload dX3_work_311) (
  sc_tc (sc_s_istore dX3_work_313 (by decide)) (
  sc_tc (sc_s_goto dX3_work_315 (by decide)) (
  sc_tc (sc_s_iload_n dX3_work_318 rfl) (
  sc_tc (sc_s_bipush dX3_work_319 (by decide)) (
  sc_tc (sc_s_icmp_eq dX3_work_321 (by decide)) (
  sc_tc (sc_s_iload_n dX3_work_324 rfl) (
  sc_tc (sc_s_bipush dX3_work_325 (by decide)) (
  sc_tc (sc_s_icmp_ne dX3_work_327 (by decide)) (
  sc_tc (sc_s_iload dX3_work_330) (
  sc_tc (sc_s_iconst dX3_work_332 (by decide)) (
  sc_tc (sc_s_iadd dX3_work_333) (
  sc_tc (sc_s_istore dX3_work_334 (by decide)) (
  sc_tc (sc_s_iload_n dX3_work_336 rfl) (
  sc_tc (sc_s_bipush dX3_work_337 (by decide)) (
  sc_tc (sc_s_icmp_ne dX3_work_339 (by decide)) (
  sc_tc (sc_s_iload dX3_work_342) (
  sc_tc (sc_s_iload dX3_work_344) (
  sc_tc (sc_s_iadd dX3_work_346) (
  sc_tc (sc_s_goto dX3_work_347 (by decide)) (
  sc_tc (sc_s_iload_n dX3_work_350 rfl) (
  sc_tc (sc_s_iload dX3_work_351) (
  sc_tc (sc_s_iadd dX3_work_353) (
  sc_tc (sc_s_istore dX3_work_354 (by decide)) (
  sc_tc (sc_s_goto dX3_work_356 (by decide)) (
  sc_tc (sc_s_iload_n dX3_work_359 rfl) (
  sc_tc (sc_s_bipush dX3_work_360 (by decide)) (
  sc_tc (sc_s_icmp_ne dX3_work_362 (by decide)) (
  sc_tc (sc_s_aload_n dX3_work_365 rfl) (
  sc_tc (sc_s_get dX3_work_366 (by decide) (by decide) kF_3_65) (
  sc_tc (sc_s_iconst dX3_work_369 (by decide)) (
  sc_tc (sc_s_iconst dX3_work_370 (by decide)) (
  sc_tc (sc_s_iastore dX3_work_371) (
  sc_tc (sc_s_aload_n dX3_work_372 rfl) (
  sc_tc (sc_s_get dX3_work_373 (by decide) (by decide) kF_3_59) (
  sc_tc (sc_s_iconst dX3_work_376 (by decide)) (
  sc_tc (sc_s_iload dX3_work_377) (
  sc_tc (sc_s_iastore dX3_work_379) (
  sc_tc (sc_s_iload dX3_work_380) (
  sc_tc (sc_s_retI dX3_work_382 rfl) ( trivial)))))))))))))))))))))))))))))))))))))))))))))))))))))))))))))))))))))))))))))))))))))))))))))))))))))))))))))))))))))))))))))))))))))))))))))))))))))))))))))))))))))))))))))))))))))))))))))))))))))))))))))))))))))))
set_option maxRecDepth 100000 in
set_option maxHeartbeats 4000000 in
theorem ts_X3_reach : sc_TS yX3_reach cX3_reach 5 none st_X3_reach :=
  sc_tc (sc_s_aload_n dX3_reach_0 rfl) (
  sc_tc (sc_s_get dX3_reach_1 (by decide) (by decide) kF_3_34) (
  sc_tc (sc_s_iconst dX3_reach_4 (by decide)) (
  sc_tc (sc_s_baload dX3_reach_5) (
  sc_tc (sc_s_if_ne dX3_reach_6 (by decide)) (
  sc_tc (sc_s_retV dX3_reach_9 rfl) (
  sc_tc (sc_s_aload_n dX3_reach_10 rfl) (
  sc_tc (sc_s_get dX3_reach_11 (by decide) (by decide) kF_3_41) (
  sc_tc (sc_s_iconst dX3_reach_14 (by decide)) (
  sc_tc (sc_s_iaload dX3_reach_15) (
  sc_tc (sc_s_istore_n dX3_reach_16 rfl (by decide)) (
  sc_tc (sc_s_iload_n dX3_reach_17 rfl) (
  sc_tc (sc_s_if_eq dX3_reach_18 (by decide)) (
  sc_tc (sc_s_iload_n dX3_reach_21 rfl) (
  sc_tc (sc_s_ins dX3_reach_22 mo_54 kM_3_126 kS_54) (
  sc_tc (sc_s_if_eq dX3_reach_25 (by decide)) (
  sc_tc (sc_s_aload_n dX3_reach_28 rfl) (
  sc_tc (sc_s_get dX3_reach_29 (by decide) (by decide) kF_3_47) (
  sc_tc (sc_s_iconst dX3_reach_32 (by decide)) (
  sc_tc (sc_s_iaload dX3_reach_33) (
  sc_tc (sc_s_iload_n dX3_reach_34 rfl) (
  sc_tc (sc_s_icmp_eq dX3_reach_35 (by decide)) (
  sc_tc (sc_s_iload_n dX3_reach_38 rfl) (
  sc_tc (sc_s_ins dX3_reach_39 mo_55 kM_3_129 kS_55) (
  sc_tc (sc_s_if_eq dX3_reach_42 (by decide)) (
  sc_tc (sc_s_aload_n dX3_reach_45 rfl) (
  sc_tc (sc_s_get dX3_reach_46 (by decide) (by decide) kF_3_50) (
  sc_tc (sc_s_iconst dX3_reach_49 (by decide)) (
  sc_tc (sc_s_iaload dX3_reach_50) (
  sc_tc (sc_s_iload_n dX3_reach_51 rfl) (
  sc_tc (sc_s_icmp_ne dX3_reach_52 (by decide)) (
  sc_tc (sc_s_iconst dX3_reach_55 (by decide)) (
  sc_tc (sc_s_goto dX3_reach_56 (by decide)) (
  sc_tc (sc_s_iconst dX3_reach_59 (by decide)) (
  sc_tc (sc_s_istore_n dX3_reach_60 rfl (by decide)) (
  sc_tc (sc_s_iload_n dX3_reach_61 rfl) (
  sc_tc (sc_s_if_eq dX3_reach_62 (by decide)) (
  sc_tc (sc_s_aload_n dX3_reach_65 rfl) (
  sc_tc (sc_s_dup dX3_reach_66) (
  sc_tc (sc_s_get dX3_reach_67 (by decide) (by decide) kF_3_132) (
  sc_tc (sc_s_iconst dX3_reach_70 (by decide)) (
  sc_tc (sc_s_iadd dX3_reach_71) (
  sc_tc (sc_s_putI dX3_reach_72 (Or.inr (Or.inr rfl)) (by decide) rfl rfl (by decide +kernel) kF_3_132) (
  sc_tc (sc_s_retV dX3_reach_75 rfl) (
  sc_tc (sc_s_aload_n dX3_reach_76 rfl) (
  sc_tc (sc_s_dup dX3_reach_77) (
  sc_tc (sc_s_get dX3_reach_78 (by decide) (by decide) kF_3_135) (
  sc_tc (sc_s_iconst dX3_reach_81 (by decide)) (
  sc_tc (sc_s_isub dX3_reach_82) (
  sc_tc (sc_s_putI dX3_reach_83 (Or.inr (Or.inr rfl)) (by decide) rfl rfl (by decide +kernel) kF_3_135) (
  sc_tc (sc_s_aload_n dX3_reach_86 rfl) (
  sc_tc (sc_s_get dX3_reach_87 (by decide) (by decide) kF_3_135) (
  sc_tc (sc_s_if_le dX3_reach_90 (by decide)) (
  sc_tc (sc_s_aload_n dX3_reach_93 rfl) (
  sc_tc (sc_s_dup dX3_reach_94) (
  sc_tc (sc_s_get dX3_reach_95 (by decide) (by decide) kF_3_132) (
  sc_tc (sc_s_iconst dX3_reach_98 (by decide)) (
  sc_tc (sc_s_iadd dX3_reach_99) (
  sc_tc (sc_s_putI dX3_reach_100 (Or.inr (Or.inr rfl)) (by decide) rfl rfl (by decide +kernel) kF_3_132) (
  sc_tc (sc_s_retV dX3_reach_103 rfl) (
  sc_tc (sc_s_aload_n dX3_reach_104 rfl) (
  sc_tc (sc_s_inv dX3_reach_105 mo_61 (by decide) rfl kM_3_138 kI_61 kL_61) (
  sc_tc (sc_s_istore dX3_reach_108 (by decide)) (
  sc_tc (sc_s_aload_n dX3_reach_110 rfl) (
  sc_tc (sc_s_get dX3_reach_111 (by decide) (by decide) kF_3_65) (
  sc_tc (sc_s_iconst dX3_reach_114 (by decide)) (
  sc_tc (sc_s_iaload dX3_reach_115) (
  sc_tc (sc_s_if_ne dX3_reach_116 (by decide)) (
  sc_tc (sc_s_iload dX3_reach_119) (
  sc_tc (sc_s_aload_n dX3_reach_121 rfl) (
  sc_tc (sc_s_get dX3_reach_122 (by decide) (by decide) kF_3_56) (
  sc_tc (sc_s_iconst dX3_reach_125 (by decide)) (
  sc_tc (sc_s_iaload dX3_reach_126) (
  sc_tc (sc_s_icmp_eq dX3_reach_127 (by decide)) (
  sc_tc (sc_s_aload_n dX3_reach_130 rfl) (
  sc_tc (sc_s_dup dX3_reach_131) (
  sc_tc (sc_s_get dX3_reach_132 (by decide) (by decide) kF_3_142) (
  sc_tc (sc_s_iconst dX3_reach_135 (by decide)) (
  sc_tc (sc_s_iadd dX3_reach_136) (
  sc_tc (sc_s_putI dX3_reach_137 (Or.inr (Or.inr rfl)) (by decide) rfl rfl (by decide +kernel) kF_3_142) (
  sc_tc (sc_s_aload_n dX3_reach_140 rfl) (
  sc_tc (sc_s_get dX3_reach_141 (by decide) (by decide) kF_3_34) (
  sc_tc (sc_s_iconst dX3_reach_144 (by decide)) (
  sc_tc (sc_s_iconst dX3_reach_145 (by decide)) (
  sc_tc (sc_s_bastore dX3_reach_146) (
  sc_tc (sc_s_aload_n dX3_reach_147 rfl) (
  sc_tc (sc_s_get dX3_reach_148 (by decide) (by decide) kF_3_34) (
  sc_tc (sc_s_iconst dX3_reach_151 (by decide)) (
  sc_tc (sc_s_iconst dX3_reach_152 (by decide)) (
  sc_tc (sc_s_bastore dX3_reach_153) (
  sc_tc (sc_s_aload_n dX3_reach_154 rfl) (
  sc_tc (sc_s_iload dX3_reach_155) (
  sc_tc (sc_s_putI dX3_reach_157 (Or.inr (Or.inr rfl)) (by decide) rfl rfl (by decide +kernel) kF_3_85) (
  sc_tc (sc_s_aload_n dX3_reach_160 rfl) (
  sc_tc (sc_s_iconst dX3_reach_161 (by decide)) (
  sc_tc (sc_s_inv dX3_reach_162 mo_56 (by decide) rfl kM_3_114 kI_56 kL_56) (
  sc_tc (sc_s_retV dX3_reach_165 rfl) ( trivial)))))))))))))))))))))))))))))))))))))))))))))))))))))))))))))))))))))))))))))))))))))))))))))))))
set_option maxRecDepth 100000 in
set_option maxHeartbeats 4000000 in
theorem ts_X3_fetch : sc_TS yX3_fetch cX3_fetch 4 none st_X3_fetch :=
  sc_tc (sc_s_aload_n dX3_fetch_0 rfl) (
  sc_tc (sc_s_get dX3_fetch_1 (by decide) (by decide) kF_3_85) (
  sc_tc (sc_s_iconst dX3_fetch_4 (by decide)) (
  sc_tc (sc_s_bipush dX3_fetch_5 (by decide)) (
  sc_tc (sc_s_ins dX3_fetch_7 mo_44 kM_3_79 kS_44) (
  sc_tc (sc_s_istore_n dX3_fetch_10 rfl (by decide)) (
  sc_tc (sc_s_aload_n dX3_fetch_11 rfl) (
  sc_tc (sc_s_get dX3_fetch_12 (by decide) (by decide) kF_3_34) (
  sc_tc (sc_s_iconst dX3_fetch_15 (by decide)) (
  sc_tc (sc_s_iconst dX3_fetch_16 (by decide)) (
  sc_tc (sc_s_bastore dX3_fetch_17) (
  sc_tc (sc_s_aload_n dX3_fetch_18 rfl) (
  sc_tc (sc_s_get dX3_fetch_19 (by decide) (by decide) kF_3_38) (
  sc_tc (sc_s_iconst dX3_fetch_22 (by decide)) (
  sc_tc (sc_s_aload_n dX3_fetch_23 rfl) (
  sc_tc (sc_s_get dX3_fetch_24 (by decide) (by decide) kF_3_85) (
  sc_tc (sc_s_iastore dX3_fetch_27) (
  sc_tc (sc_s_aload_n dX3_fetch_28 rfl) (
  sc_tc (sc_s_get dX3_fetch_29 (by decide) (by decide) kF_3_41) (
  sc_tc (sc_s_iconst dX3_fetch_32 (by decide)) (
  sc_tc (sc_s_iload_n dX3_fetch_33 rfl) (
  sc_tc (sc_s_if_eq dX3_fetch_34 (by decide)) (
  sc_tc (sc_s_aload_n dX3_fetch_37 rfl) (
  sc_tc (sc_s_get dX3_fetch_38 (by decide) (by decide) kF_3_7) (
  sc_tc (sc_s_aload_n dX3_fetch_41 rfl) (
  sc_tc (sc_s_get dX3_fetch_42 (by decide) (by decide) kF_3_85) (
  sc_tc (sc_s_iaload dX3_fetch_45) (
  sc_tc (sc_s_goto dX3_fetch_46 (by decide)) (
  sc_tc (sc_s_bipush dX3_fetch_49 (by decide)) (
  sc_tc (sc_s_iastore dX3_fetch_51) (
  sc_tc (sc_s_aload_n dX3_fetch_52 rfl) (
  sc_tc (sc_s_get dX3_fetch_53 (by decide) (by decide) kF_3_44) (
  sc_tc (sc_s_iconst dX3_fetch_56 (by decide)) (
  sc_tc (sc_s_iload_n dX3_fetch_57 rfl) (
  sc_tc (sc_s_if_eq dX3_fetch_58 (by decide)) (
  sc_tc (sc_s_aload_n dX3_fetch_61 rfl) (
  sc_tc (sc_s_get dX3_fetch_62 (by decide) (by decide) kF_3_13) (
  sc_tc (sc_s_aload_n dX3_fetch_65 rfl) (
  sc_tc (sc_s_get dX3_fetch_66 (by decide) (by decide) kF_3_85) (
  sc_tc (sc_s_iaload dX3_fetch_69) (
  sc_tc (sc_s_goto dX3_fetch_70 (by decide)) (
  sc_tc (sc_s_iconst dX3_fetch_73 (by decide)) (
  sc_tc (sc_s_iastore dX3_fetch_74) (
  sc_tc (sc_s_aload_n dX3_fetch_75 rfl) (
  sc_tc (sc_s_get dX3_fetch_76 (by decide) (by decide) kF_3_47) (
  sc_tc (sc_s_iconst dX3_fetch_79 (by decide)) (
  sc_tc (sc_s_iload_n dX3_fetch_80 rfl) (
  sc_tc (sc_s_if_eq dX3_fetch_81 (by decide)) (
  sc_tc (sc_s_aload_n dX3_fetch_84 rfl) (
  sc_tc (sc_s_get dX3_fetch_85 (by decide) (by decide) kF_3_16) (
  sc_tc (sc_s_aload_n dX3_fetch_88 rfl) (
  sc_tc (sc_s_get dX3_fetch_89 (by decide) (by decide) kF_3_85) (
  sc_tc (sc_s_iaload dX3_fetch_92) (
  sc_tc (sc_s_goto dX3_fetch_93 (by decide)) (
  sc_tc (sc_s_iconst dX3_fetch_96 (by decide)) (
  sc_tc (sc_s_iastore dX3_fetch_97) (
  sc_tc (sc_s_aload_n dX3_fetch_98 rfl) (
  sc_tc (sc_s_get dX3_fetch_99 (by decide) (by decide) kF_3_50) (
  sc_tc (sc_s_iconst dX3_fetch_102 (by decide)) (
  sc_tc (sc_s_iload_n dX3_fetch_103 rfl) (
  sc_tc (sc_s_if_eq dX3_fetch_104 (by decide)) (
  sc_tc (sc_s_aload_n dX3_fetch_107 rfl) (
  sc_tc (sc_s_get dX3_fetch_108 (by decide) (by decide) kF_3_19) (
  sc_tc (sc_s_aload_n dX3_fetch_111 rfl) (
  sc_tc (sc_s_get dX3_fetch_112 (by decide) (by decide) kF_3_85) (
  sc_tc (sc_s_iaload dX3_fetch_115) (
  sc_tc (sc_s_goto dX3_fetch_116 (by decide)) (
  sc_tc (sc_s_iconst dX3_fetch_119 (by decide)) (
  sc_tc (sc_s_iastore dX3_fetch_120) (
  sc_tc (sc_s_aload_n dX3_fetch_121 rfl) (
  sc_tc (sc_s_get dX3_fetch_122 (by decide) (by decide) kF_3_53) (
  sc_tc (sc_s_iconst dX3_fetch_125 (by decide)) (
  sc_tc (sc_s_iload_n dX3_fetch_126 rfl) (
  sc_tc (sc_s_if_eq dX3_fetch_127 (by decide)) (
  sc_tc (sc_s_aload_n dX3_fetch_130 rfl) (
  sc_tc (sc_s_get dX3_fetch_131 (by decide) (by decide) kF_3_22) (
  sc_tc (sc_s_aload_n dX3_fetch_134 rfl) (
  sc_tc (sc_s_get dX3_fetch_135 (by decide) (by decide) kF_3_85) (
  sc_tc (sc_s_iaload dX3_fetch_138) (
  sc_tc (sc_s_goto dX3_fetch_139 (by decide)) (
  sc_tc (sc_s_iconst dX3_fetch_142 (by decide)) (
  sc_tc (sc_s_iastore dX3_fetch_143) (
  sc_tc (sc_s_aload_n dX3_fetch_144 rfl) (
  sc_tc (sc_s_get dX3_fetch_145 (by decide) (by decide) kF_3_65) (
  sc_tc (sc_s_iconst dX3_fetch_148 (by decide)) (
  sc_tc (sc_s_iload_n dX3_fetch_149 rfl) (
  sc_tc (sc_s_if_eq dX3_fetch_150 (by decide)) (
  sc_tc (sc_s_iconst dX3_fetch_153 (by decide)) (
  sc_tc (sc_s_goto dX3_fetch_154 (by decide)) (
  sc_tc (sc_s_iconst dX3_fetch_157 (by decide)) (
  sc_tc (sc_s_iastore dX3_fetch_158) (
  sc_tc (sc_s_aload_n dX3_fetch_159 rfl) (
  sc_tc (sc_s_get dX3_fetch_160 (by decide) (by decide) kF_3_41) (
  sc_tc (sc_s_iconst dX3_fetch_163 (by decide)) (
  sc_tc (sc_s_iaload dX3_fetch_164) (
  sc_tc (sc_s_istore_n dX3_fetch_165 rfl (by decide)) (
  sc_tc (sc_s_iload_n dX3_fetch_166 rfl) (
  sc_tc (sc_s_bipush dX3_fetch_167 (by decide)) (
  sc_tc (sc_s_icmp_eq dX3_fetch_169 (by decide)) (
  sc_tc (sc_s_iload_n dX3_fetch_172 rfl) (
  sc_tc (sc_s_bipush dX3_fetch_173 (by decide)) (
  sc_tc (sc_s_icmp_eq dX3_fetch_175 (by decide)) (
  sc_tc (sc_s_iload_n dX3_fetch_178 rfl) (
  sc_tc (sc_s_bipush dX3_fetch_179 (by decide)) (
  sc_tc (sc_s_icmp_ne dX3_fetch_181 (by decide)) (
  sc_tc (sc_s_aload_n dX3_fetch_184 rfl) (
  sc_tc (sc_s_get dX3_fetch_185 (by decide) (by decide) kF_3_31) (
  sc_tc (sc_s_aload_n dX3_fetch_188 rfl) (
  sc_tc (sc_s_get dX3_fetch_189 (by decide) (by decide) kF_3_85) (
  sc_tc (sc_s_bipush dX3_fetch_192 (by decide)) (
  sc_tc (sc_s_iand dX3_fetch_194) (
  sc_tc (sc_s_iaload dX3_fetch_195) (
  sc_tc (sc_s_iconst dX3_fetch_196 (by decide)) (
  sc_tc (sc_s_icmp_le dX3_fetch_197 (by decide)) (
  sc_tc (sc_s_iconst dX3_fetch_200 (by decide)) (
  sc_tc (sc_s_goto dX3_fetch_201 (by decide)) (
  sc_tc (sc_s_iconst dX3_fetch_204 (by decide)) (
  sc_tc (sc_s_istore_n dX3_fetch_205 rfl (by decide)) (
  sc_tc (sc_s_aload_n dX3_fetch_206 rfl) (
  sc_tc (sc_s_iload_n dX3_fetch_207 rfl) (
  sc_tc (sc_s_if_eq dX3_fetch_208 (by decide)) (
  sc_tc (sc_s_aload_n dX3_fetch_211 rfl) (
  sc_tc (sc_s_get dX3_fetch_212 (by decide) (by decide) kF_3_85) (
  sc_tc (sc_s_aload_n dX3_fetch_215 rfl) (
  sc_tc (sc_s_get dX3_fetch_216 (by decide) (by decide) kF_3_53) (
  sc_tc (sc_s_iconst dX3_fetch_219 (by decide)) (
  sc_tc (sc_s_iaload dX3_fetch_220) (
  sc_tc (sc_s_iadd dX3_fetch_221) (
  sc_tc (sc_s_goto dX3_fetch_222 (by decide)) (
  sc_tc (sc_s_aload_n dX3_fetch_225 rfl) (
  sc_tc (sc_s_get dX3_fetch_226 (by decide) (by decide) kF_3_85) (
  sc_tc (sc_s_iconst dX3_fetch_229 (by decide)) (
  sc_tc (sc_s_iadd dX3_fetch_230) (
  sc_tc (sc_s_putI dX3_fetch_231 (Or.inr (Or.inr rfl)) (by decide) rfl rfl (by decide +kernel) kF_3_85) (
  sc_tc (sc_s_aload_n dX3_fetch_234 rfl) (
  sc_tc (sc_s_get dX3_fetch_235 (by decide) (by decide) kF_3_56) (
  sc_tc (sc_s_iconst dX3_fetch_238 (by decide)) (
  sc_tc (sc_s_aload_n dX3_fetch_239 rfl) (
  sc_tc (sc_s_get dX3_fetch_240 (by decide) (by decide) kF_3_85) (
  sc_tc (sc_s_iastore dX3_fetch_243) (
  sc_tc (sc_s_retV dX3_fetch_244 rfl) ( trivial)))))))))))))))))))))))))))))))))))))))))))))))))))))))))))))))))))))))))))))))))))))))))))))))))))))))))))))))))))))))))))))))))))))))))))))
set_option maxRecDepth 100000 in
set_option maxHeartbeats 4000000 in
theorem ts_X3_cycle : sc_TS yX3_cycle cX3_cycle 2 none st_X3_cycle :=
  sc_tc (sc_s_aload_n dX3_cycle_0 rfl) (
  sc_tc (sc_s_dup dX3_cycle_1) (
  sc_tc (sc_s_get dX3_cycle_2 (by decide) (by decide) kF_3_145) (
  sc_tc (sc_s_iconst dX3_cycle_5 (by decide)) (
  sc_tc (sc_s_iadd dX3_cycle_6) (
  sc_tc (sc_s_putI dX3_cycle_7 (Or.inr (Or.inr rfl)) (by decide) rfl rfl (by decide +kernel) kF_3_145) (
  sc_tc (sc_s_aload_n dX3_cycle_10 rfl) (
  sc_tc (sc_s_get dX3_cycle_11 (by decide) (by decide) kF_3_34) (
  sc_tc (sc_s_iconst dX3_cycle_14 (by decide)) (
  sc_tc (sc_s_baload dX3_cycle_15) (
  sc_tc (sc_s_if_eq dX3_cycle_16 (by decide)) (
  sc_tc (sc_s_aload_n dX3_cycle_19 rfl) (
  sc_tc (sc_s_get dX3_cycle_20 (by decide) (by decide) kF_3_41) (
  sc_tc (sc_s_iconst dX3_cycle_23 (by decide)) (
  sc_tc (sc_s_iaload dX3_cycle_24) (
  sc_tc (sc_s_bipush dX3_cycle_25 (by decide)) (
  sc_tc (sc_s_icmp_ne dX3_cycle_27 (by decide)) (
  sc_tc (sc_s_aload_n dX3_cycle_30 rfl) (
  sc_tc (sc_s_get dX3_cycle_31 (by decide) (by decide) kF_3_65) (
  sc_tc (sc_s_iconst dX3_cycle_34 (by decide)) (
  sc_tc (sc_s_iaload dX3_cycle_35) (
  sc_tc (sc_s_if_ne dX3_cycle_36 (by decide)) (
  sc_tc (sc_s_aload_n dX3_cycle_39 rfl) (
  sc_tc (sc_s_get dX3_cycle_40 (by decide) (by decide) kF_3_44) (
  sc_tc (sc_s_iconst dX3_cycle_43 (by decide)) (
  sc_tc (sc_s_iaload dX3_cycle_44) (
  sc_tc (sc_s_goto dX3_cycle_45 (by decide)) (
  sc_tc (sc_s_iconst dX3_cycle_48 (by decide)) (
  sc_tc (sc_s_istore_n dX3_cycle_49 rfl (by decide)) (
  sc_tc (sc_s_aload_n dX3_cycle_50 rfl) (
  sc_tc (sc_s_inv dX3_cycle_51 mo_57 (by decide) rfl kM_3_148 kI_57 kL_57) (
  sc_tc (sc_s_if_eq dX3_cycle_54 (by decide)) (
  sc_tc (sc_s_retV dX3_cycle_57 rfl) (
  sc_tc (sc_s_aload_n dX3_cycle_58 rfl) (
  sc_tc (sc_s_inv dX3_cycle_59 mo_58 (by decide) rfl kM_3_152 kI_58 kL_58) (
  sc_tc (sc_s_aload_n dX3_cycle_62 rfl) (
  sc_tc (sc_s_iload_n dX3_cycle_63 rfl) (
  sc_tc (sc_s_inv dX3_cycle_64 mo_62 (by decide) rfl kM_3_155 kI_62 kL_62) (
  sc_tc (sc_s_aload_n dX3_cycle_67 rfl) (
  sc_tc (sc_s_get dX3_cycle_68 (by decide) (by decide) kF_3_34) (
  sc_tc (sc_s_iconst dX3_cycle_71 (by decide)) (
  sc_tc (sc_s_baload dX3_cycle_72) (
  sc_tc (sc_s_if_ne dX3_cycle_73 (by decide)) (
  sc_tc (sc_s_aload_n dX3_cycle_76 rfl) (
  sc_tc (sc_s_get dX3_cycle_77 (by decide) (by decide) kF_3_34) (
  sc_tc (sc_s_iconst dX3_cycle_80 (by decide)) (
  sc_tc (sc_s_baload dX3_cycle_81) (
  sc_tc (sc_s_if_eq dX3_cycle_82 (by decide)) (
  sc_tc (sc_s_aload_n dX3_cycle_85 rfl) (
  sc_tc (sc_s_iconst dX3_cycle_86 (by decide)) (
  sc_tc (sc_s_inv dX3_cycle_87 mo_56 (by decide) rfl kM_3_114 kI_56 kL_56) (
  sc_tc (sc_s_aload_n dX3_cycle_90 rfl) (
  sc_tc (sc_s_aload_n dX3_cycle_91 rfl) (
  sc_tc (sc_s_get dX3_cycle_92 (by decide) (by decide) kF_3_41) (
  sc_tc (sc_s_iconst dX3_cycle_95 (by decide)) (
  sc_tc (sc_s_iaload dX3_cycle_96) (
  sc_tc (sc_s_bipush dX3_cycle_97 (by decide)) (
  sc_tc (sc_s_icmp_ne dX3_cycle_99 (by decide)) (
  sc_tc (sc_s_iconst dX3_cycle_102 (by decide)) (
  sc_tc (sc_s_goto dX3_cycle_103 (by decide)) (
  sc_tc (sc_s_aload_n dX3_cycle_106 rfl) (
  sc_tc (sc_s_get dX3_cycle_107 (by decide) (by decide) kF_3_41) (
  sc_tc (sc_s_iconst dX3_cycle_110 (by decide)) (
  sc_tc (sc_s_iaload dX3_cycle_111) (
  sc_tc (sc_s_bipush dX3_cycle_112 (by decide)) (
  sc_tc (sc_s_icmp_ne dX3_cycle_114 (by decide)) (
  sc_tc (sc_s_bipush dX3_cycle_117 (by decide)) (
  sc_tc (sc_s_goto dX3_cycle_119 (by decide)) (
  sc_tc (sc_s_iconst dX3_cycle_122 (by decide)) (
  sc_tc (sc_s_putI dX3_cycle_123 (Or.inr (Or.inr rfl)) (by decide) rfl rfl (by decide +kernel) kF_3_135) (
  sc_tc (sc_s_aload_n dX3_cycle_126 rfl) (
  sc_tc (sc_s_get dX3_cycle_127 (by decide) (by decide) kF_3_34) (
  sc_tc (sc_s_iconst dX3_cycle_130 (by decide)) (
  sc_tc (sc_s_baload dX3_cycle_131) (
  sc_tc (sc_s_if_ne dX3_cycle_132 (by decide)) (
  sc_tc (sc_s_aload_n dX3_cycle_135 rfl) (
  sc_tc (sc_s_get dX3_cycle_136 (by decide) (by decide) kF_3_34) (
  sc_tc (sc_s_iconst dX3_cycle_139 (by decide)) (
  sc_tc (sc_s_baload dX3_cycle_140) (
  sc_tc (sc_s_if_eq dX3_cycle_141 (by decide)) (
  sc_tc (sc_s_aload_n dX3_cycle_144 rfl) (
  sc_tc (sc_s_iconst dX3_cycle_145 (by decide)) (
  sc_tc (sc_s_inv dX3_cycle_146 mo_56 (by decide) rfl kM_3_114 kI_56 kL_56) (
  sc_tc (sc_s_aload_n dX3_cycle_149 rfl) (
  sc_tc (sc_s_get dX3_cycle_150 (by decide) (by decide) kF_3_34) (
  sc_tc (sc_s_iconst dX3_cycle_153 (by decide)) (
  sc_tc (sc_s_baload dX3_cycle_154) (
  sc_tc (sc_s_if_ne dX3_cycle_155 (by decide)) (
  sc_tc (sc_s_aload_n dX3_cycle_158 rfl) (
  sc_tc (sc_s_inv dX3_cycle_159 mo_63 (by decide) rfl kM_3_158 kI_63 kL_63) (
  sc_tc (sc_s_retV dX3_cycle_162 rfl) ( trivial)))))))))))))))))))))))))))))))))))))))))))))))))))))))))))))))))))))))))))))))))))))))))))
set_option maxRecDepth 100000 in
set_option maxHeartbeats 4000000 in
theorem ts_X3_cycles : sc_TS yX3_cycles cX3_cycles 4 (some .int) st_X3_cycles :=
  sc_tc (sc_s_aload_n dX3_cycles_0 rfl) (
  sc_tc (sc_s_iload_n dX3_cycles_1 rfl) (
  sc_tc (sc_s_iconst dX3_cycles_2 (by decide)) (
  sc_tc (sc_s_sipush dX3_cycles_3 (by decide)) (
  sc_tc (sc_s_inv dX3_cycles_6 mo_43 (by decide) rfl kM_3_75 kI_43 kL_43) (
  sc_tc (sc_s_if_eq dX3_cycles_9 (by decide)) (
  sc_tc (sc_s_iconst dX3_cycles_12 (by decide)) (
  sc_tc (sc_s_retI dX3_cycles_13 rfl) (
  sc_tc (sc_s_aload_n dX3_cycles_14 rfl) (
  sc_tc (sc_s_get dX3_cycles_15 (by decide) (by decide) kF_3_108) (
  sc_tc (sc_s_istore_n dX3_cycles_18 rfl (by decide)) (
  sc_tc (sc_s_iconst dX3_cycles_19 (by decide)) (
  sc_tc (sc_s_istore_n dX3_cycles_20 rfl (by decide)) (
  sc_tc (sc_s_iload_n dX3_cycles_21 rfl) (
  sc_tc (sc_s_iload_n dX3_cycles_22 rfl) (
  sc_tc (sc_s_icmp_ge dX3_cycles_23 (by decide)) (
  sc_tc (sc_s_aload_n dX3_cycles_26 rfl) (
  sc_tc (sc_s_get dX3_cycles_27 (by decide) (by decide) kF_3_88) (
  sc_tc (sc_s_if_ne dX3_cycles_30 (by decide)) (
  sc_tc (sc_s_aload_n dX3_cycles_33 rfl) (
  sc_tc (sc_s_inv dX3_cycles_34 mo_64 (by decide) rfl kM_3_161 kI_64 kL_64) (
  sc_tc (sc_s_iinc dX3_cycles_37 (by decide) (by decide)) (
  sc_tc (sc_s_goto dX3_cycles_40 (by decide)) (
  sc_tc (sc_s_aload_n dX3_cycles_43 rfl) (
  sc_tc (sc_s_get dX3_cycles_44 (by decide) (by decide) kF_3_108) (
  sc_tc (sc_s_iload_n dX3_cycles_47 rfl) (
  sc_tc (sc_s_isub dX3_cycles_48) (
  sc_tc (sc_s_retI dX3_cycles_49 rfl) ( trivial))))))))))))))))))))))))))))
set_option maxRecDepth 100000 in
set_option maxHeartbeats 4000000 in
theorem ts_X3_stage : sc_TS yX3_stage cX3_stage 2 (some .int) st_X3_stage :=
  sc_tc (sc_s_aload_n dX3_stage_0 rfl) (
  sc_tc (sc_s_iload_n dX3_stage_1 rfl) (
  sc_tc (sc_s_iconst dX3_stage_2 (by decide)) (
  sc_tc (sc_s_iconst dX3_stage_3 (by decide)) (
  sc_tc (sc_s_inv dX3_stage_4 mo_43 (by decide) rfl kM_3_75 kI_43 kL_43) (
  sc_tc (sc_s_if_eq dX3_stage_7 (by decide)) (
  sc_tc (sc_s_iconst dX3_stage_10 (by decide)) (
  sc_tc (sc_s_retI dX3_stage_11 rfl) (
  sc_tc (sc_s_aload_n dX3_stage_12 rfl) (
  sc_tc (sc_s_get dX3_stage_13 (by decide) (by decide) kF_3_34) (
  sc_tc (sc_s_iload_n dX3_stage_16 rfl) (
  sc_tc (sc_s_baload dX3_stage_17) (
  sc_tc (sc_s_if_eq dX3_stage_18 (by decide)) (
  sc_tc (sc_s_aload_n dX3_stage_21 rfl) (
  sc_tc (sc_s_get dX3_stage_22 (by decide) (by decide) kF_3_38) (
  sc_tc (sc_s_iload_n dX3_stage_25 rfl) (
  sc_tc (sc_s_iaload dX3_stage_26) (
  sc_tc (sc_s_goto dX3_stage_27 (by decide)) (
  sc_tc (sc_s_iconst dX3_stage_30 (by decide)) (
  sc_tc (sc_s_retI dX3_stage_31 rfl) ( trivial))))))))))))))))))))
set_option maxRecDepth 100000 in
set_option maxHeartbeats 4000000 in
theorem ts_X3_counter : sc_TS yX3_counter cX3_counter 2 (some .int) st_X3_counter :=
  sc_tc (sc_s_aload_n dX3_counter_0 rfl) (
  sc_tc (sc_s_iload_n dX3_counter_1 rfl) (
  sc_tc (sc_s_iconst dX3_counter_2 (by decide)) (
  sc_tc (sc_s_bipush dX3_counter_3 (by decide)) (
  sc_tc (sc_s_inv dX3_counter_5 mo_43 (by decide) rfl kM_3_75 kI_43 kL_43) (
  sc_tc (sc_s_if_eq dX3_counter_8 (by decide)) (
  sc_tc (sc_s_iconst dX3_counter_11 (by decide)) (
  sc_tc (sc_s_goto dX3_counter_12 (by decide)) (
  sc_tc (sc_s_aload_n dX3_counter_15 rfl) (
  sc_tc (sc_s_get dX3_counter_16 (by decide) (by decide) kF_3_31) (
  sc_tc (sc_s_iload_n dX3_counter_19 rfl) (
  sc_tc (sc_s_iaload dX3_counter_20) (
  sc_tc (sc_s_retI dX3_counter_21 rfl) ( trivial)))))))))))))
set_option maxRecDepth 100000 in
set_option maxHeartbeats 4000000 in
theorem ts_X3_retired : sc_TS yX3_retired cX3_retired 2 (some .int) st_X3_retired :=
  sc_tc (sc_s_aload_n dX3_retired_0 rfl) (
  sc_tc (sc_s_iload_n dX3_retired_1 rfl) (
  sc_tc (sc_s_iconst dX3_retired_2 (by decide)) (
  sc_tc (sc_s_aload_n dX3_retired_3 rfl) (
  sc_tc (sc_s_get dX3_retired_4 (by decide) (by decide) kF_3_111) (
  sc_tc (sc_s_iconst dX3_retired_7 (by decide)) (
  sc_tc (sc_s_isub dX3_retired_8) (
  sc_tc (sc_s_inv dX3_retired_9 mo_43 (by decide) rfl kM_3_75 kI_43 kL_43) (
  sc_tc (sc_s_if_eq dX3_retired_12 (by decide)) (
  sc_tc (sc_s_iconst dX3_retired_15 (by decide)) (
  sc_tc (sc_s_goto dX3_retired_16 (by decide)) (
  sc_tc (sc_s_aload_n dX3_retired_19 rfl) (
  sc_tc (sc_s_get dX3_retired_20 (by decide) (by decide) kF_3_68) (
  sc_tc (sc_s_iload_n dX3_retired_23 rfl) (
  sc_tc (sc_s_iaload dX3_retired_24) (
  sc_tc (sc_s_retI dX3_retired_25 rfl) ( trivial))))))))))))))))
set_option maxRecDepth 100000 in
set_option maxHeartbeats 4000000 in
theorem ts_X3_count : sc_TS yX3_count cX3_count 2 (some .int) st_X3_count :=
  sc_tc (sc_s_aload_n dX3_count_0 rfl) (
  sc_tc (sc_s_iload_n dX3_count_1 rfl) (
  sc_tc (sc_s_iconst dX3_count_2 (by decide)) (
  sc_tc (sc_s_bipush dX3_count_3 (by decide)) (
  sc_tc (sc_s_inv dX3_count_5 mo_43 (by decide) rfl kM_3_75 kI_43 kL_43) (
  sc_tc (sc_s_if_eq dX3_count_8 (by decide)) (
  sc_tc (sc_s_iconst dX3_count_11 (by decide)) (
  sc_tc (sc_s_retI dX3_count_12 rfl) (
  sc_tc (sc_s_iload_n dX3_count_13 rfl) (
  sc_tc (sc_s_sw dX3_count_14 (by decide) (by decide) (by decide +kernel)) (
  sc_tc (sc_s_aload_n dX3_count_60 rfl) (
  sc_tc (sc_s_get dX3_count_61 (by decide) (by decide) kF_3_145) (
  sc_tc (sc_s_retI dX3_count_64 rfl) (
  sc_tc (sc_s_aload_n dX3_count_65 rfl) (
  sc_tc (sc_s_get dX3_count_66 (by decide) (by decide) kF_3_108) (
  sc_tc (sc_s_retI dX3_count_69 rfl) (
  sc_tc (sc_s_aload_n dX3_count_70 rfl) (
  sc_tc (sc_s_get dX3_count_71 (by decide) (by decide) kF_3_132) (
  sc_tc (sc_s_retI dX3_count_74 rfl) (
  sc_tc (sc_s_aload_n dX3_count_75 rfl) (
  sc_tc (sc_s_get dX3_count_76 (by decide) (by decide) kF_3_142) (
  sc_tc (sc_s_retI dX3_count_79 rfl) (
  sc_tc (sc_s_aload_n dX3_count_80 rfl) (
  sc_tc (sc_s_get dX3_count_81 (by decide) (by decide) kF_3_95) (
  sc_tc (sc_s_retI dX3_count_84 rfl) (
  sc_tc (sc_s_aload_n dX3_count_85 rfl) (
  sc_tc (sc_s_get dX3_count_86 (by decide) (by decide) kF_3_85) (
  sc_tc (sc_s_retI dX3_count_89 rfl) (
  sc_tc (sc_s_aload_n dX3_count_90 rfl) (
  sc_tc (sc_s_get dX3_count_91 (by decide) (by decide) kF_3_98) (
  sc_tc (sc_s_retI dX3_count_94 rfl) (
  sc_tc (sc_s_aload_n dX3_count_95 rfl) (
  sc_tc (sc_s_get dX3_count_96 (by decide) (by decide) kF_3_101) (
  sc_tc (sc_s_retI dX3_count_99 rfl) (
  sc_tc (sc_s_aload_n dX3_count_100 rfl) (
  sc_tc (sc_s_get dX3_count_101 (by decide) (by decide) kF_3_88) (
  sc_tc (sc_s_if_eq dX3_count_104 (by decide)) (
  sc_tc (sc_s_iconst dX3_count_107 (by decide)) (
  sc_tc (sc_s_goto dX3_count_108 (by decide)) (
  sc_tc (sc_s_iconst dX3_count_111 (by decide)) (
  sc_tc (sc_s_retI dX3_count_112 rfl) ( trivial)))))))))))))))))))))))))))))))))))))))))
set_option maxRecDepth 100000 in
set_option maxHeartbeats 4000000 in
theorem ts_J9_max_7cf53 : sc_TS yJ9_max_7cf53 cJ9_max_7cf53 2 (some .int) st_J9_max_7cf53 :=
  sc_tc (sc_s_iload_n dJ9_max_7cf53_0 rfl) (
  sc_tc (sc_s_iload_n dJ9_max_7cf53_1 rfl) (
  sc_tc (sc_s_icmp_lt dJ9_max_7cf53_2 (by decide)) (
  sc_tc (sc_s_iload_n dJ9_max_7cf53_5 rfl) (
  sc_tc (sc_s_goto dJ9_max_7cf53_6 (by decide)) (
  sc_tc (sc_s_iload_n dJ9_max_7cf53_9 rfl) (
  sc_tc (sc_s_retI dJ9_max_7cf53_10 rfl) ( trivial)))))))
set_option maxRecDepth 100000 in
set_option maxHeartbeats 4000000 in
theorem ts_J9_min_7cf53 : sc_TS yJ9_min_7cf53 cJ9_min_7cf53 2 (some .int) st_J9_min_7cf53 :=
  sc_tc (sc_s_iload_n dJ9_min_7cf53_0 rfl) (
  sc_tc (sc_s_iload_n dJ9_min_7cf53_1 rfl) (
  sc_tc (sc_s_icmp_gt dJ9_min_7cf53_2 (by decide)) (
  sc_tc (sc_s_iload_n dJ9_min_7cf53_5 rfl) (
  sc_tc (sc_s_goto dJ9_min_7cf53_6 (by decide)) (
  sc_tc (sc_s_iload_n dJ9_min_7cf53_9 rfl) (
  sc_tc (sc_s_retI dJ9_min_7cf53_10 rfl) ( trivial)))))))
noncomputable def sc_t (mid : Nat) : List (Nat × sc_EN) := match mid with
  | 0 => st_X0_does
  | 1 => st_X1_writesD
  | 2 => st_X0_writes
  | 3 => st_X1_isBranch
  | 4 => st_X1_usesT
  | 5 => st_X1_usesS
  | 6 => st_X1_touchesData
  | 7 => st_X1_workCycles
  | 8 => st_X2_checkIndex
  | 9 => st_X2_checkArgument
  | 10 => st_X2_poke
  | 11 => st_X2_peek
  | 12 => st_X2_set
  | 13 => st_X2_register
  | 14 => st_X2_emptyStagesBelow
  | 15 => st_X2_start
  | 16 => st_X2_handler
  | 17 => st_X2_takeFault
  | 18 => st_X2_retire
  | 19 => st_X2_leaveEndsCycle
  | 20 => st_X2_moveOnIfFree
  | 21 => st_X2_passMemory
  | 22 => st_X2_needsLoadAhead
  | 23 => st_X2_handedOn
  | 24 => st_X2_isWord
  | 25 => st_X2_faultOf
  | 26 => st_X2_valueOf
  | 27 => st_X2_goesElsewhere
  | 28 => st_J9_floorMod_7cf53
  | 29 => st_X2_learn
  | 30 => st_X2_target
  | 31 => st_X2_holdAgainstGuess
  | 32 => st_X2_finishWork
  | 33 => st_X2_workInReached
  | 34 => st_X2_guessNext
  | 35 => st_X2_fetchIfFree
  | 36 => st_X2_runCycle
  | 37 => st_X2_cycles
  | 38 => st_X2_stage
  | 39 => st_X2_counter
  | 40 => st_X2_retired
  | 41 => st_X2_count
  | 42 => st_X3_thrown
  | 43 => st_X3_out
  | 44 => st_X3_in
  | 45 => st_X3_put
  | 46 => st_X3_poke
  | 47 => st_X3_peek
  | 48 => st_X3_set
  | 49 => st_X3_register
  | 50 => st_X3_empty
  | 51 => st_X3_start
  | 52 => st_X3_handler
  | 53 => st_X3_writes
  | 54 => st_X3_usesFirst
  | 55 => st_X3_usesSecond
  | 56 => st_X3_move
  | 57 => st_X3_leave
  | 58 => st_X3_remember
  | 59 => st_X3_read
  | 60 => st_X3_reckon
  | 61 => st_X3_work
  | 62 => st_X3_reach
  | 63 => st_X3_fetch
  | 64 => st_X3_cycle
  | 65 => st_X3_cycles
  | 66 => st_X3_stage
  | 67 => st_X3_counter
  | 68 => st_X3_retired
  | 69 => st_X3_count
  | 70 => st_J9_max_7cf53
  | _ => st_J9_min_7cf53
theorem sc_ts : ∀ mid, mid < 72 → sc_TS (sc_y mid) (sc_c mid) (sc_nL mid) (sc_rt mid) (sc_t mid) := fun mid h => match mid, h with
  | 0, _ => ts_X0_does
  | 1, _ => ts_X1_writesD
  | 2, _ => ts_X0_writes
  | 3, _ => ts_X1_isBranch
  | 4, _ => ts_X1_usesT
  | 5, _ => ts_X1_usesS
  | 6, _ => ts_X1_touchesData
  | 7, _ => ts_X1_workCycles
  | 8, _ => ts_X2_checkIndex
  | 9, _ => ts_X2_checkArgument
  | 10, _ => ts_X2_poke
  | 11, _ => ts_X2_peek
  | 12, _ => ts_X2_set
  | 13, _ => ts_X2_register
  | 14, _ => ts_X2_emptyStagesBelow
  | 15, _ => ts_X2_start
  | 16, _ => ts_X2_handler
  | 17, _ => ts_X2_takeFault
  | 18, _ => ts_X2_retire
  | 19, _ => ts_X2_leaveEndsCycle
  | 20, _ => ts_X2_moveOnIfFree
  | 21, _ => ts_X2_passMemory
  | 22, _ => ts_X2_needsLoadAhead
  | 23, _ => ts_X2_handedOn
  | 24, _ => ts_X2_isWord
  | 25, _ => ts_X2_faultOf
  | 26, _ => ts_X2_valueOf
  | 27, _ => ts_X2_goesElsewhere
  | 28, _ => ts_J9_floorMod_7cf53
  | 29, _ => ts_X2_learn
  | 30, _ => ts_X2_target
  | 31, _ => ts_X2_holdAgainstGuess
  | 32, _ => ts_X2_finishWork
  | 33, _ => ts_X2_workInReached
  | 34, _ => ts_X2_guessNext
  | 35, _ => ts_X2_fetchIfFree
  | 36, _ => ts_X2_runCycle
  | 37, _ => ts_X2_cycles
  | 38, _ => ts_X2_stage
  | 39, _ => ts_X2_counter
  | 40, _ => ts_X2_retired
  | 41, _ => ts_X2_count
  | 42, _ => ts_X3_thrown
  | 43, _ => ts_X3_out
  | 44, _ => ts_X3_in
  | 45, _ => ts_X3_put
  | 46, _ => ts_X3_poke
  | 47, _ => ts_X3_peek
  | 48, _ => ts_X3_set
  | 49, _ => ts_X3_register
  | 50, _ => ts_X3_empty
  | 51, _ => ts_X3_start
  | 52, _ => ts_X3_handler
  | 53, _ => ts_X3_writes
  | 54, _ => ts_X3_usesFirst
  | 55, _ => ts_X3_usesSecond
  | 56, _ => ts_X3_move
  | 57, _ => ts_X3_leave
  | 58, _ => ts_X3_remember
  | 59, _ => ts_X3_read
  | 60, _ => ts_X3_reckon
  | 61, _ => ts_X3_work
  | 62, _ => ts_X3_reach
  | 63, _ => ts_X3_fetch
  | 64, _ => ts_X3_cycle
  | 65, _ => ts_X3_cycles
  | 66, _ => ts_X3_stage
  | 67, _ => ts_X3_counter
  | 68, _ => ts_X3_retired
  | 69, _ => ts_X3_count
  | 70, _ => ts_J9_max_7cf53
  | 71, _ => ts_J9_min_7cf53
  | n + 72, h => absurd h (by omega)
theorem sc_pn_ok : ∀ mid, mid < 72 → plainFor (sc_y mid) = true := by decide +kernel
theorem sc_hd0 : ∀ mid, mid < 72 → sc_hd (sc_t mid) = 0 := fun mid h => match mid, h with
  | 0, _ => rfl
  | 1, _ => rfl
  | 2, _ => rfl
  | 3, _ => rfl
  | 4, _ => rfl
  | 5, _ => rfl
  | 6, _ => rfl
  | 7, _ => rfl
  | 8, _ => rfl
  | 9, _ => rfl
  | 10, _ => rfl
  | 11, _ => rfl
  | 12, _ => rfl
  | 13, _ => rfl
  | 14, _ => rfl
  | 15, _ => rfl
  | 16, _ => rfl
  | 17, _ => rfl
  | 18, _ => rfl
  | 19, _ => rfl
  | 20, _ => rfl
  | 21, _ => rfl
  | 22, _ => rfl
  | 23, _ => rfl
  | 24, _ => rfl
  | 25, _ => rfl
  | 26, _ => rfl
  | 27, _ => rfl
  | 28, _ => rfl
  | 29, _ => rfl
  | 30, _ => rfl
  | 31, _ => rfl
  | 32, _ => rfl
  | 33, _ => rfl
  | 34, _ => rfl
  | 35, _ => rfl
  | 36, _ => rfl
  | 37, _ => rfl
  | 38, _ => rfl
  | 39, _ => rfl
  | 40, _ => rfl
  | 41, _ => rfl
  | 42, _ => rfl
  | 43, _ => rfl
  | 44, _ => rfl
  | 45, _ => rfl
  | 46, _ => rfl
  | 47, _ => rfl
  | 48, _ => rfl
  | 49, _ => rfl
  | 50, _ => rfl
  | 51, _ => rfl
  | 52, _ => rfl
  | 53, _ => rfl
  | 54, _ => rfl
  | 55, _ => rfl
  | 56, _ => rfl
  | 57, _ => rfl
  | 58, _ => rfl
  | 59, _ => rfl
  | 60, _ => rfl
  | 61, _ => rfl
  | 62, _ => rfl
  | 63, _ => rfl
  | 64, _ => rfl
  | 65, _ => rfl
  | 66, _ => rfl
  | 67, _ => rfl
  | 68, _ => rfl
  | 69, _ => rfl
  | 70, _ => rfl
  | 71, _ => rfl
  | n + 72, h => absurd h (by omega)
end
section
/-! a method's own precondition, for all methods at once, and that it gives the method's contract -/
def sc_sf : List (Nat × sc_EN) → Nat → List (Nat × sc_EN)
  | [], _ => []
  | q :: r, t => match Nat.beq q.1 t with
    | true => q :: r
    | false => sc_sf r t
def sc_wp0 : List (Nat × sc_EN) → sc_KT := fun _ _ _ _ _ => False
def sc_wpS (C : sc_CT) (Q : sc_RT) (all : List (Nat × sc_EN)) (_ : Nat) (f : List (Nat × sc_EN) → sc_KT) (cur : List (Nat × sc_EN)) : sc_KT := match cur with
  | [] => fun _ _ _ _ => False
  | q :: r => q.2 C Q (fun t => f (sc_sf all t)) (f r)
noncomputable def sc_wp (C : sc_CT) (Q : sc_RT) (all : List (Nat × sc_EN)) (n : Nat) : List (Nat × sc_EN) → sc_KT := Nat.rec (motive := fun _ => List (Nat × sc_EN) → sc_KT) sc_wp0 (sc_wpS C Q all) n
def sc_al : Nat → List sc_V → sc_L
  | _, [] => []
  | i, v :: r => (i, v) :: sc_al (i + 1) r
noncomputable def sc_wpM : Nat → sc_CT
  | 0 => fun _ _ _ _ _ => False
  | d + 1 => fun mid as I D K => match Nat.ble as.length (sc_nL mid) with
    | true => sc_wp (sc_wpM d) K (sc_t mid) 5000 (sc_t mid) (sc_al 0 as) [] I D
    | false => False
theorem sc_sf_ts {y : MethodName} {cc : ByteArray} {nL : Nat} {rt : Option FieldType} : ∀ (all : List (Nat × sc_EN)) (t : Nat), sc_TS y cc nL rt all → sc_TS y cc nL rt (sc_sf all t)
  | [], _, h => h
  | q :: r, t, h => by
    unfold sc_sf
    split
    · exact h
    · exact sc_sf_ts r t h.2
theorem sc_sf_hd : ∀ (all : List (Nat × sc_EN)) (t : Nat), sc_sf all t = [] ∨ sc_hd (sc_sf all t) = t
  | [], _ => Or.inl rfl
  | q :: r, t => by
    unfold sc_sf
    split
    · rename_i hb
      exact Or.inr (Nat.eq_of_beq_eq_true hb)
    · exact sc_sf_hd r t
theorem sc_wp_nil {C : sc_CT} {Q : sc_RT} {all : List (Nat × sc_EN)} : ∀ {n : Nat} {lv : sc_L} {st : List sc_V} {I : sc_I} {D : sc_R}, ¬ sc_wp C Q all n [] lv st I D
  | 0, _, _, _, _ => id
  | _ + 1, _, _, _, _ => id
theorem sc_wp_snd {l : Launch} {d : Nat} {p : Program} {e : Env} {s : State} {m : MethodId} {args : Array Value} {below : List Frame} {meth : Method} {c : Code} {dC : Nat → ClassId} {dI : Nat → Nat → Nat} {ad : Nat → Nat} {cA : Nat → ClassId} {LP : List Nat} {o : Nat → Int64} {A : Nat → Prop} {C : sc_CT} {Q : sc_RT} {y : MethodName} {cc : ByteArray} {nL : Nat} {rt : Option FieldType} {all : List (Nat × sc_EN)}
    (hC : sc_Cx l d p e s m args below meth c dC dI ad cA LP o A y cc nL rt) (hO : sc_CO l d dC dI ad cA LP o A C) (hT : sc_TS y cc nL rt all) :
    ∀ (n : Nat) (cur : List (Nat × sc_EN)), sc_TS y cc nL rt cur → ∀ lv st I D, sc_wp C Q all n cur lv st I D → sc_At l d p e s m args below meth c dC dI ad cA LP o A Q nL (sc_hd cur) lv st I D := by
  intro n
  induction n with
  | zero => intro cur _ lv st I D h; exact h.elim
  | succ n ih =>
    intro cur hc lv st I D h
    cases cur with
    | nil => exact h.elim
    | cons q r =>
      refine hc.1 l d p e s m args below meth c dC dI ad cA LP o A C Q hC hO _ _ (fun t lv st I D h => ?_) (fun lv st I D h => ih r hc.2 lv st I D h) lv st I D h
      rcases sc_sf_hd all t with e0 | e0
      · rw [e0] at h
        exact absurd h sc_wp_nil
      · have := ih (sc_sf all t) (sc_sf_ts all t hT) lv st I D h
        rw [e0] at this
        exact this
theorem sc_lg (ad : Nat → Nat) : ∀ as : List sc_V, (lg_sl (as.map (sc_tv ad))).length = as.length
  | [] => rfl
  | v :: r => by
    have := sc_lg ad r
    rcases v with x | ⟨k, i⟩ <;> simpa [lg_sl, sc_tv, Value.category] using this
theorem sc_al_map (ad : Nat → Nat) : ∀ (as : List sc_V) (i : Nat), lv_args i (as.map (sc_tv ad)) = sc_lm ad (sc_al i as)
  | [], _ => rfl
  | v :: r, i => by
    have h1 := sc_al_map ad r (i + 1)
    have h2 : ¬ (sc_tv ad v).category = 2 := by rw [sc_tv_cat]; decide
    show (i, sc_tv ad v) :: lv_args (if (sc_tv ad v).category = 2 then i + 2 else i + 1) (r.map (sc_tv ad)) = (i, sc_tv ad v) :: sc_lm ad (sc_al (i + 1) r)
    rw [if_neg h2, h1]
theorem sc_al_ok {LP : List Nat} : ∀ (as : List sc_V) (i : Nat), (∀ v ∈ as, sc_ok LP v) → ∀ q ∈ sc_al i as, sc_ok LP q.2
  | [], _, _, q, hq => by cases hq
  | v :: r, i, h, q, hq => by
    rcases List.mem_cons.mp hq with rfl | hq
    · exact h v List.mem_cons_self
    · exact sc_al_ok r (i + 1) (fun z hz => h z (List.mem_cons_of_mem _ hz)) q hq
theorem sc_ofW {l : Launch} {y : MethodName} {ws ws' : List Cond} {rm : Room} {Pc : Array Value → State → Prop} {Qc : Array Value → State → Outcome → State → Prop} {mc ms : Nat} {free : Addr → Prop} {cc : ByteArray} {maxL : Nat} {ret : Option FieldType}
    (hy : plainFor y = true) (hw : ws = Cond.code y cc maxL ret :: ws')
    (body : ∀ p e s m args below meth c s₁, BodyLoose p l y (headSpec ws rm) cc maxL ret e s m args below meth c s₁ → c.maxLocals = maxL → Pc args s →
      W p l e (headSpec ws rm).room s m args below meth c s.heap [] 0 0 (MQ below Qc args s mc ms free) (entryFrame m args maxL)) : Met l y ws rm Pc Qc mc ms free := by
  refine MetFree.of_bodySF (code := cc) (maxLocals := maxL) (ret := ret) hy ?_ ?_
  · intro args s m h hn
    obtain ⟨meth, c, h1, h2, h3, h4, h5, h6, -, -⟩ := Cond.code_spec hn (atoms_spec (ws := ws) h _ (by rw [hw]; exact List.mem_cons_self))
    exact ⟨meth, c, h1, h2, h3, h4, h5, h6⟩
  · intro p e s m args below meth c s₁ B hml hP _
    have hh0 : s₁.heap = s.heap := by rw [B.state]; rfl
    obtain ⟨t, a1, o, b1, b2, b3⟩ := body p e s m args below meth c s₁ B hml hP s₁ hh0 (Stand.of_body B)
    exact ⟨t, o, a1, b1, b2, ⟨b3.1, b3.2⟩⟩
/-- THE METHODS: what the interpreter says of a method holds of it on the machine -/
theorem sc_sound (l : Launch) (dC : Nat → ClassId) (dI : Nat → Nat → Nat) (ad : Nat → Nat) (cA : Nat → ClassId) (LP : List Nat) (o : Nat → Int64) (A : Nat → Prop) (hD : ∀ I D, va_D A (sc_w ad cA LP o I D)) : ∀ d, sc_CO l d dC dI ad cA LP o A (sc_wpM d) := by
  intro d
  induction d with
  | zero => intro mid as I D K _ h; exact h.elim
  | succ d ih =>
    intro mid as I D K hm hf hok hvd
    unfold sc_wpM at hf
    split at hf
    · rename_i hbl
      have hle : as.length ≤ sc_nL mid := Nat.le_of_ble_eq_true hbl
      unfold sc_Met
      refine sc_ofW (cc := sc_c mid) (maxL := sc_nL mid) (ret := sc_rt mid) (sc_pn_ok mid hm) rfl ?_
      intro p e s m args below meth c s₁ B hml hv
      obtain ⟨rfl, hKN, hP⟩ := hv
      have hts := atoms_spec (ws := sc_ws (sc_y mid) (sc_c mid) (sc_nL mid) (sc_rt mid)) B.pre
      have hown : s.vm.findClass (sc_y mid).cls = some m.cls := findClass_of_methodNamed B.named
      have hAt := sc_wp_snd (l := l) (d := d) (e := e) (below := below) (o := o) (LP := LP) (ad := ad) ⟨B.exec, B.bytes, B.returns, hml, hown, hts, B.notSynchronized, hKN, hD⟩ ih (sc_ts mid hm) 5000 (sc_t mid) (sc_ts mid hm) (sc_al 0 as) [] I D hf
      rw [sc_hd0 mid hm] at hAt
      rw [lg_entry_eq]
      have hl := lv_entry (as.map (sc_tv ad)) (n := sc_nL mid) (by rw [sc_lg]; exact hle)
      rw [sc_al_map] at hl
      exact hAt hvd (fun v hv => by cases hv) (sc_al_ok as 0 hok) s.heap [] _ hP va_S.rf hl
    · exact hf.elim
end
section
theorem sc_open {d mid : Nat} {as : List sc_V} {I : sc_I} {D : sc_R} {K : sc_RT} (hle : Nat.ble as.length (sc_nL mid) = true) (h : sc_wp (sc_wpM d) K (sc_t mid) 5000 (sc_t mid) (sc_al 0 as) [] I D) : sc_wpM (d + 1) mid as I D K := by
  unfold sc_wpM
  rw [hle]
  exact h
theorem sc_vi {x : Int32} {n : Nat} (h : ¬ (x < 0 ∨ n ≤ x.toNatClampNeg)) : vp_in x n := h
def sc_wd (x : Int32) : Prop := x ≤ 11 ∨ x = 15 ∨ x = 16
def sc_br (x : Int32) : Prop := x = 13 ∨ x = 14
def sc_td (x : Int32) : Prop := x = 11 ∨ x = 12
def sc_ut (x : Int32) : Prop := x ≤ 8 ∨ x = 12 ∨ sc_br x
def sc_us (x : Int32) : Prop := x ≤ 9 ∨ x = 11 ∨ x = 16 ∨ sc_ut x
def sc_wc (x : Int32) : Int32 := if x = 7 then 3 else if x = 8 then 6 else 1
def sc_does (I : sc_I) (D : sc_R) (f : Nat) (q : Int32) : Prop := ¬ I 0 f 0 = 0 ∧ I 0 f 5 = 0 ∧ I 1 (D 0 f 1) 0 = q
def sc_wr (I : sc_I) (D : sc_R) (f : Nat) (r : Int32) : Prop := ¬ I 0 f 0 = 0 ∧ I 0 f 5 = 0 ∧ ¬ r = 0 ∧ sc_wd (I 1 (D 0 f 1) 0) ∧ I 1 (D 0 f 1) 1 = r
abbrev S_isBranch (C : sc_CT) : Prop := ∀ (I : sc_I) (D : sc_R) (K : sc_RT) (a : Nat) (ht : sc_br (I 1 a 0) → K (some (.inl 1)) I D) (hf : ¬ sc_br (I 1 a 0) → K (some (.inl 0)) I D), C 3 [.inr (1, a)] I D K
theorem z_isBranch (C : sc_CT)  (I : sc_I) (D : sc_R) (K : sc_RT) (a : Nat) (ht : sc_br (I 1 a 0) → K (some (.inl 1)) I D) (hf : ¬ sc_br (I 1 a 0) → K (some (.inl 0)) I D) : sc_wp C K (sc_t 3) 5000 (sc_t 3) (sc_al 0 [.inr (1, a)]) [] I D := by
  repeat' (first | (show _ ∧ _; first | refine And.intro (Or.inl rfl) ?_ | refine And.intro (Or.inr rfl) ?_ | refine And.intro (sc_vi (by decide)) ?_ | refine br_t (by decide) ?_ | refine br_f (by decide) ?_ | refine And.intro (fun _ => ?_) (fun _ => ?_)))
  all_goals first | exact ht (by unfold sc_br; grind) | exact hf (by unfold sc_br; grind)
theorem x_isBranch (d : Nat) : S_isBranch (sc_wpM (d + 1)) := fun I D K a ht hf => sc_open (d := d) rfl (z_isBranch (sc_wpM (d))  I D K a ht hf)
abbrev S_writesD (C : sc_CT) : Prop := ∀ (I : sc_I) (D : sc_R) (K : sc_RT) (a : Nat) (ht : sc_wd (I 1 a 0) → K (some (.inl 1)) I D) (hf : ¬ sc_wd (I 1 a 0) → K (some (.inl 0)) I D), C 1 [.inr (1, a)] I D K
theorem z_writesD (C : sc_CT)  (I : sc_I) (D : sc_R) (K : sc_RT) (a : Nat) (ht : sc_wd (I 1 a 0) → K (some (.inl 1)) I D) (hf : ¬ sc_wd (I 1 a 0) → K (some (.inl 0)) I D) : sc_wp C K (sc_t 1) 5000 (sc_t 1) (sc_al 0 [.inr (1, a)]) [] I D := by
  repeat' (first | (show _ ∧ _; first | refine And.intro (Or.inl rfl) ?_ | refine And.intro (Or.inr rfl) ?_ | refine And.intro (sc_vi (by decide)) ?_ | refine br_t (by decide) ?_ | refine br_f (by decide) ?_ | refine And.intro (fun _ => ?_) (fun _ => ?_)))
  all_goals first | exact ht (by unfold sc_wd; grind) | exact hf (by unfold sc_wd; grind)
theorem x_writesD (d : Nat) : S_writesD (sc_wpM (d + 1)) := fun I D K a ht hf => sc_open (d := d) rfl (z_writesD (sc_wpM (d))  I D K a ht hf)
abbrev S_touchesData (C : sc_CT) : Prop := ∀ (I : sc_I) (D : sc_R) (K : sc_RT) (a : Nat) (ht : sc_td (I 1 a 0) → K (some (.inl 1)) I D) (hf : ¬ sc_td (I 1 a 0) → K (some (.inl 0)) I D), C 6 [.inr (1, a)] I D K
theorem z_touchesData (C : sc_CT)  (I : sc_I) (D : sc_R) (K : sc_RT) (a : Nat) (ht : sc_td (I 1 a 0) → K (some (.inl 1)) I D) (hf : ¬ sc_td (I 1 a 0) → K (some (.inl 0)) I D) : sc_wp C K (sc_t 6) 5000 (sc_t 6) (sc_al 0 [.inr (1, a)]) [] I D := by
  repeat' (first | (show _ ∧ _; first | refine And.intro (Or.inl rfl) ?_ | refine And.intro (Or.inr rfl) ?_ | refine And.intro (sc_vi (by decide)) ?_ | refine br_t (by decide) ?_ | refine br_f (by decide) ?_ | refine And.intro (fun _ => ?_) (fun _ => ?_)))
  all_goals first | exact ht (by unfold sc_td; grind) | exact hf (by unfold sc_td; grind)
theorem x_touchesData (d : Nat) : S_touchesData (sc_wpM (d + 1)) := fun I D K a ht hf => sc_open (d := d) rfl (z_touchesData (sc_wpM (d))  I D K a ht hf)
abbrev S_usesT (C : sc_CT) : Prop := ∀ (I : sc_I) (D : sc_R) (K : sc_RT) (a : Nat) (ht : sc_ut (I 1 a 0) → K (some (.inl 1)) I D) (hf : ¬ sc_ut (I 1 a 0) → K (some (.inl 0)) I D), C 4 [.inr (1, a)] I D K
theorem z_usesT (C : sc_CT) (c1 : S_isBranch C) (I : sc_I) (D : sc_R) (K : sc_RT) (a : Nat) (ht : sc_ut (I 1 a 0) → K (some (.inl 1)) I D) (hf : ¬ sc_ut (I 1 a 0) → K (some (.inl 0)) I D) : sc_wp C K (sc_t 4) 5000 (sc_t 4) (sc_al 0 [.inr (1, a)]) [] I D := by
  repeat' (first | (show _ ∧ _; first | refine And.intro (Or.inl rfl) ?_ | refine And.intro (Or.inr rfl) ?_ | refine And.intro (sc_vi (by decide)) ?_ | refine br_t (by decide) ?_ | refine br_f (by decide) ?_ | refine And.intro (fun _ => ?_) (fun _ => ?_)) | refine c1 _ _ _ _ (fun _ => ?_) (fun _ => ?_))
  all_goals first | exact ht (by unfold sc_ut; grind) | exact hf (by unfold sc_ut; grind)
theorem x_usesT (d : Nat) : S_usesT (sc_wpM (d + 2)) := fun I D K a ht hf => sc_open (d := d + 1) rfl (z_usesT (sc_wpM (d + 1)) (x_isBranch (d + 0)) I D K a ht hf)
abbrev S_usesS (C : sc_CT) : Prop := ∀ (I : sc_I) (D : sc_R) (K : sc_RT) (a : Nat) (ht : sc_us (I 1 a 0) → K (some (.inl 1)) I D) (hf : ¬ sc_us (I 1 a 0) → K (some (.inl 0)) I D), C 5 [.inr (1, a)] I D K
theorem z_usesS (C : sc_CT) (c1 : S_usesT C) (I : sc_I) (D : sc_R) (K : sc_RT) (a : Nat) (ht : sc_us (I 1 a 0) → K (some (.inl 1)) I D) (hf : ¬ sc_us (I 1 a 0) → K (some (.inl 0)) I D) : sc_wp C K (sc_t 5) 5000 (sc_t 5) (sc_al 0 [.inr (1, a)]) [] I D := by
  repeat' (first | (show _ ∧ _; first | refine And.intro (Or.inl rfl) ?_ | refine And.intro (Or.inr rfl) ?_ | refine And.intro (sc_vi (by decide)) ?_ | refine br_t (by decide) ?_ | refine br_f (by decide) ?_ | refine And.intro (fun _ => ?_) (fun _ => ?_)) | refine c1 _ _ _ _ (fun _ => ?_) (fun _ => ?_))
  all_goals first | exact ht (by unfold sc_us; grind) | exact hf (by unfold sc_us; grind)
theorem x_usesS (d : Nat) : S_usesS (sc_wpM (d + 3)) := fun I D K a ht hf => sc_open (d := d + 2) rfl (z_usesS (sc_wpM (d + 2)) (x_usesT (d + 0)) I D K a ht hf)
abbrev S_workCycles (C : sc_CT) : Prop := ∀ (I : sc_I) (D : sc_R) (K : sc_RT) (a : Nat) (h : K (some (.inl (sc_wc (I 1 a 0)))) I D), C 7 [.inr (1, a)] I D K
theorem z_workCycles (C : sc_CT)  (I : sc_I) (D : sc_R) (K : sc_RT) (a : Nat) (h : K (some (.inl (sc_wc (I 1 a 0)))) I D) : sc_wp C K (sc_t 7) 5000 (sc_t 7) (sc_al 0 [.inr (1, a)]) [] I D := by
  refine And.intro (fun h1 => ?_) (fun h1 => ?_)
  · rw [sc_wc, if_pos h1] at h
    exact h
  · rw [sc_wc, if_neg h1] at h
    refine And.intro (fun h2 => ?_) (fun h2 => ?_)
    · rw [if_pos h2] at h
      exact h
    · rw [if_neg h2] at h
      exact h
theorem x_workCycles (d : Nat) : S_workCycles (sc_wpM (d + 1)) := fun I D K a h => sc_open (d := d) rfl (z_workCycles (sc_wpM (d))  I D K a h)
abbrev S_does (C : sc_CT) : Prop := ∀ (I : sc_I) (D : sc_R) (K : sc_RT) (f : Nat) (q : Int32) (ht : sc_does I D f q → K (some (.inl 1)) I D) (hf : ¬ sc_does I D f q → K (some (.inl 0)) I D), C 0 [.inr (0, f), .inl q] I D K
theorem z_does (C : sc_CT)  (I : sc_I) (D : sc_R) (K : sc_RT) (f : Nat) (q : Int32) (ht : sc_does I D f q → K (some (.inl 1)) I D) (hf : ¬ sc_does I D f q → K (some (.inl 0)) I D) : sc_wp C K (sc_t 0) 5000 (sc_t 0) (sc_al 0 [.inr (0, f), .inl q]) [] I D := by
  repeat' (first | (show _ ∧ _; first | refine And.intro (Or.inl rfl) ?_ | refine And.intro (Or.inr rfl) ?_ | refine And.intro (sc_vi (by decide)) ?_ | refine br_t (by decide) ?_ | refine br_f (by decide) ?_ | refine And.intro (fun _ => ?_) (fun _ => ?_)))
  all_goals first | exact ht ⟨by assumption, by assumption, by assumption⟩ | exact hf (fun z => by obtain ⟨z1, z2, z3⟩ := z; contradiction)
theorem x_does (d : Nat) : S_does (sc_wpM (d + 1)) := fun I D K f q ht hf => sc_open (d := d) rfl (z_does (sc_wpM (d))  I D K f q ht hf)
abbrev S_writes (C : sc_CT) : Prop := ∀ (I : sc_I) (D : sc_R) (K : sc_RT) (f : Nat) (q : Int32) (ht : sc_wr I D f q → K (some (.inl 1)) I D) (hf : ¬ sc_wr I D f q → K (some (.inl 0)) I D), C 2 [.inr (0, f), .inl q] I D K
theorem z_writes (C : sc_CT) (c1 : S_writesD C) (I : sc_I) (D : sc_R) (K : sc_RT) (f : Nat) (q : Int32) (ht : sc_wr I D f q → K (some (.inl 1)) I D) (hf : ¬ sc_wr I D f q → K (some (.inl 0)) I D) : sc_wp C K (sc_t 2) 5000 (sc_t 2) (sc_al 0 [.inr (0, f), .inl q]) [] I D := by
  repeat' (first | (show _ ∧ _; first | refine And.intro (Or.inl rfl) ?_ | refine And.intro (Or.inr rfl) ?_ | refine And.intro (sc_vi (by decide)) ?_ | refine br_t (by decide) ?_ | refine br_f (by decide) ?_ | refine And.intro (fun _ => ?_) (fun _ => ?_)) | refine c1 _ _ _ _ (fun _ => ?_) (fun _ => ?_))
  all_goals first | exact ht ⟨by assumption, by assumption, by assumption, by assumption, by assumption⟩ | exact hf (fun z => by obtain ⟨z1, z2, z3, z4, z5⟩ := z; contradiction)
theorem x_writes (d : Nat) : S_writes (sc_wpM (d + 2)) := fun I D K f q ht hf => sc_open (d := d + 1) rfl (z_writes (sc_wpM (d + 1)) (x_writesD (d + 0)) I D K f q ht hf)
abbrev S_max (C : sc_CT) : Prop := ∀ (I : sc_I) (D : sc_R) (K : sc_RT) (x y : Int32) (h1 : x < y → K (some (.inl y)) I D) (h2 : ¬ x < y → K (some (.inl x)) I D), C 70 [.inl x, .inl y] I D K
theorem z_max (C : sc_CT)  (I : sc_I) (D : sc_R) (K : sc_RT) (x y : Int32) (h1 : x < y → K (some (.inl y)) I D) (h2 : ¬ x < y → K (some (.inl x)) I D) : sc_wp C K (sc_t 70) 5000 (sc_t 70) (sc_al 0 [.inl x, .inl y]) [] I D := by
  repeat' (first | (show _ ∧ _; first | refine And.intro (Or.inl rfl) ?_ | refine And.intro (Or.inr rfl) ?_ | refine And.intro (sc_vi (by decide)) ?_ | refine br_t (by decide) ?_ | refine br_f (by decide) ?_ | refine And.intro (fun _ => ?_) (fun _ => ?_)))
  all_goals first | exact h1 (by assumption) | exact h2 (by assumption)
theorem x_max (d : Nat) : S_max (sc_wpM (d + 1)) := fun I D K x y h1 h2 => sc_open (d := d) rfl (z_max (sc_wpM (d))  I D K x y h1 h2)
abbrev S_min (C : sc_CT) : Prop := ∀ (I : sc_I) (D : sc_R) (K : sc_RT) (x y : Int32) (h1 : y < x → K (some (.inl y)) I D) (h2 : ¬ y < x → K (some (.inl x)) I D), C 71 [.inl x, .inl y] I D K
theorem z_min (C : sc_CT)  (I : sc_I) (D : sc_R) (K : sc_RT) (x y : Int32) (h1 : y < x → K (some (.inl y)) I D) (h2 : ¬ y < x → K (some (.inl x)) I D) : sc_wp C K (sc_t 71) 5000 (sc_t 71) (sc_al 0 [.inl x, .inl y]) [] I D := by
  repeat' (first | (show _ ∧ _; first | refine And.intro (Or.inl rfl) ?_ | refine And.intro (Or.inr rfl) ?_ | refine And.intro (sc_vi (by decide)) ?_ | refine br_t (by decide) ?_ | refine br_f (by decide) ?_ | refine And.intro (fun _ => ?_) (fun _ => ?_)))
  all_goals first | exact h1 (by assumption) | exact h2 (by assumption)
theorem x_min (d : Nat) : S_min (sc_wpM (d + 1)) := fun I D K x y h1 h2 => sc_open (d := d) rfl (z_min (sc_wpM (d))  I D K x y h1 h2)
abbrev S_isWord (C : sc_CT) : Prop := ∀ (I : sc_I) (D : sc_R) (K : sc_RT) (x : Int32) (h1 : (0 ≤ x ∧ x < 32) → K (some (.inl 1)) I D) (h2 : ¬ (0 ≤ x ∧ x < 32) → K (some (.inl 0)) I D), C 24 [.inl x] I D K
theorem z_isWord (C : sc_CT)  (I : sc_I) (D : sc_R) (K : sc_RT) (x : Int32) (h1 : (0 ≤ x ∧ x < 32) → K (some (.inl 1)) I D) (h2 : ¬ (0 ≤ x ∧ x < 32) → K (some (.inl 0)) I D) : sc_wp C K (sc_t 24) 5000 (sc_t 24) (sc_al 0 [.inl x]) [] I D := by
  repeat' (first | (show _ ∧ _; first | refine And.intro (Or.inl rfl) ?_ | refine And.intro (Or.inr rfl) ?_ | refine And.intro (sc_vi (by decide)) ?_ | refine br_t (by decide) ?_ | refine br_f (by decide) ?_ | refine And.intro (fun _ => ?_) (fun _ => ?_)))
  all_goals first | exact h1 (by grind) | exact h2 (by grind)
theorem x_isWord (d : Nat) : S_isWord (sc_wpM (d + 1)) := fun I D K x h1 h2 => sc_open (d := d) rfl (z_isWord (sc_wpM (d))  I D K x h1 h2)
end
section
def m_wd (x : Int32) : Prop := (0 ≤ x ∧ x ≤ 11) ∨ x = 15 ∨ x = 16
def m_us (x : Int32) : Prop := (0 ≤ x ∧ x ≤ 9) ∨ (11 ≤ x ∧ x ≤ 14) ∨ x = 16
def m_ut (x : Int32) : Prop := (0 ≤ x ∧ x ≤ 8) ∨ (12 ≤ x ∧ x ≤ 14)
def m_emp (J : sc_I) : sc_I := sc_u (sc_u (sc_u (sc_u (sc_u J 5 0 0 0) 5 0 1 0) 5 0 2 0) 5 0 3 0) 5 0 4 0
def m_row (r i : Nat) (J : sc_I) : sc_I := sc_u J 4 r (i + 1) (J 4 r i)
def m_move (i : Nat) (J : sc_I) : sc_I := m_row 21 i (m_row 20 i (m_row 19 i (m_row 18 i (m_row 17 i (m_row 16 i (m_row 15 i (m_row 14 i (m_row 13 i (m_row 12 i (sc_u (sc_u J 5 0 (i + 1) 1) 5 0 i 0))))))))))
def m_flt (J : sc_I) : sc_I := m_emp (sc_u (sc_u (sc_u (sc_u (sc_u J 5 0 4 0) 3 0 30 (J 3 0 30 + 1)) 3 0 23 (J 4 21 4)) 3 0 24 (J 4 12 4)) 3 0 21 (J 3 0 22))
def m_hlt (J : sc_I) : sc_I := m_emp (sc_u (sc_u J 5 0 4 0) 3 0 25 1)
def m_sh (k : Int32) (J : sc_I) : sc_I := sc_u J 4 22 k.toNatClampNeg (J 4 22 (k - 1).toNatClampNeg)
def m_shift (J : sc_I) : sc_I := m_sh (15 + -1 + -1 + -1 + -1 + -1 + -1 + -1 + -1 + -1 + -1 + -1 + -1 + -1 + -1) (m_sh (15 + -1 + -1 + -1 + -1 + -1 + -1 + -1 + -1 + -1 + -1 + -1 + -1 + -1) (m_sh (15 + -1 + -1 + -1 + -1 + -1 + -1 + -1 + -1 + -1 + -1 + -1 + -1) (m_sh (15 + -1 + -1 + -1 + -1 + -1 + -1 + -1 + -1 + -1 + -1 + -1) (m_sh (15 + -1 + -1 + -1 + -1 + -1 + -1 + -1 + -1 + -1 + -1) (m_sh (15 + -1 + -1 + -1 + -1 + -1 + -1 + -1 + -1 + -1) (m_sh (15 + -1 + -1 + -1 + -1 + -1 + -1 + -1 + -1) (m_sh (15 + -1 + -1 + -1 + -1 + -1 + -1 + -1) (m_sh (15 + -1 + -1 + -1 + -1 + -1 + -1) (m_sh (15 + -1 + -1 + -1 + -1 + -1) (m_sh (15 + -1 + -1 + -1 + -1) (m_sh (15 + -1 + -1 + -1) (m_sh (15 + -1 + -1) (m_sh (15 + -1) (m_sh 15 J))))))))))))))
def m_kept (x : Int32) : Int32 := if x < 16 then x + 1 else 16
def m_note (k : Int32) (J : sc_I) : sc_I := sc_u (sc_u (m_shift (sc_u J 3 0 27 (J 3 0 27 + 1))) 4 22 0 (J 4 12 4)) 3 0 31 k
def m_retN (J : sc_I) : sc_I := m_note (m_kept (J 3 0 31)) (sc_u J 5 0 4 0)
def m_retW (J : sc_I) : sc_I := m_note (m_kept (J 3 0 31)) (sc_u (sc_u J 5 0 4 0) 4 10 (J 4 14 4).toNatClampNeg (J 4 19 4))
abbrev S_m_thrown (C : sc_CT) : Prop := ∀ (I : sc_I) (D : sc_R) (K : sc_RT) (h : K (some (.inl (I 3 0 0))) I D), C 42 [.inr (3, 0)] I D K
theorem z_m_thrown (C : sc_CT)  (I : sc_I) (D : sc_R) (K : sc_RT) (h : K (some (.inl (I 3 0 0))) I D) : sc_wp C K (sc_t 42) 5000 (sc_t 42) (sc_al 0 [.inr (3, 0)]) [] I D := by
  exact h
theorem x_m_thrown (d : Nat) : S_m_thrown (sc_wpM (d + 1)) := fun I D K h => sc_open (d := d) rfl (z_m_thrown (sc_wpM (d))  I D K h)
abbrev S_m_out (C : sc_CT) : Prop := ∀ (I : sc_I) (D : sc_R) (K : sc_RT) (v lo hi : Int32) (h1 : (lo ≤ v ∧ v ≤ hi) → K (some (.inl 0)) (sc_u I 3 0 0 0) D) (h2 : ¬ (lo ≤ v ∧ v ≤ hi) → K (some (.inl 1)) (sc_u I 3 0 0 1) D), C 43 [.inr (3, 0), .inl v, .inl lo, .inl hi] I D K
theorem z_m_out (C : sc_CT)  (I : sc_I) (D : sc_R) (K : sc_RT) (v lo hi : Int32) (h1 : (lo ≤ v ∧ v ≤ hi) → K (some (.inl 0)) (sc_u I 3 0 0 0) D) (h2 : ¬ (lo ≤ v ∧ v ≤ hi) → K (some (.inl 1)) (sc_u I 3 0 0 1) D) : sc_wp C K (sc_t 43) 5000 (sc_t 43) (sc_al 0 [.inr (3, 0), .inl v, .inl lo, .inl hi]) [] I D := by
  refine And.intro (fun a => ?_) (fun a => ?_)
  · exact br_f (show ¬ (1 : Int32) ≤ 0 by decide) ⟨Or.inr rfl, h2 (by grind)⟩
  · refine And.intro (fun b => ?_) (fun b => ?_)
    · exact br_f (show ¬ (1 : Int32) ≤ 0 by decide) ⟨Or.inr rfl, h2 (by grind)⟩
    · exact br_t (show (0 : Int32) ≤ 0 by decide) ⟨Or.inl rfl, h1 (by grind)⟩
theorem x_m_out (d : Nat) : S_m_out (sc_wpM (d + 1)) := fun I D K v lo hi h1 h2 => sc_open (d := d) rfl (z_m_out (sc_wpM (d))  I D K v lo hi h1 h2)
abbrev S_m_in (C : sc_CT) : Prop := ∀ (I : sc_I) (D : sc_R) (K : sc_RT) (v lo hi : Int32) (h1 : (lo ≤ v ∧ v ≤ hi) → K (some (.inl 1)) I D) (h2 : ¬ (lo ≤ v ∧ v ≤ hi) → K (some (.inl 0)) I D), C 44 [.inl v, .inl lo, .inl hi] I D K
theorem z_m_in (C : sc_CT)  (I : sc_I) (D : sc_R) (K : sc_RT) (v lo hi : Int32) (h1 : (lo ≤ v ∧ v ≤ hi) → K (some (.inl 1)) I D) (h2 : ¬ (lo ≤ v ∧ v ≤ hi) → K (some (.inl 0)) I D) : sc_wp C K (sc_t 44) 5000 (sc_t 44) (sc_al 0 [.inl v, .inl lo, .inl hi]) [] I D := by
  repeat' (first | (show _ ∧ _; first | refine And.intro (Or.inl rfl) ?_ | refine And.intro (Or.inr rfl) ?_ | refine And.intro (sc_vi (by decide)) ?_ | refine br_t (by decide) ?_ | refine br_f (by decide) ?_ | refine And.intro (fun _ => ?_) (fun _ => ?_)))
  all_goals first | exact h1 (by grind) | exact h2 (by grind)
theorem x_m_in (d : Nat) : S_m_in (sc_wpM (d + 1)) := fun I D K v lo hi h1 h2 => sc_open (d := d) rfl (z_m_in (sc_wpM (d))  I D K v lo hi h1 h2)
abbrev S_m_writes (C : sc_CT) : Prop := ∀ (I : sc_I) (D : sc_R) (K : sc_RT) (v : Int32) (ht : m_wd v → K (some (.inl 1)) I D) (hf : ¬ m_wd v → K (some (.inl 0)) I D), C 53 [.inl v] I D K
theorem z_m_writes (C : sc_CT) (c1 : S_m_in C) (I : sc_I) (D : sc_R) (K : sc_RT) (v : Int32) (ht : m_wd v → K (some (.inl 1)) I D) (hf : ¬ m_wd v → K (some (.inl 0)) I D) : sc_wp C K (sc_t 53) 5000 (sc_t 53) (sc_al 0 [.inl v]) [] I D := by
  repeat' (first | (show _ ∧ _; first | refine And.intro (Or.inl rfl) ?_ | refine And.intro (Or.inr rfl) ?_ | refine And.intro (sc_vi (by decide)) ?_ | refine br_t (by decide) ?_ | refine br_f (by decide) ?_ | refine And.intro (fun _ => ?_) (fun _ => ?_)) | refine c1 _ _ _ _ _ _ (fun _ => ?_) (fun _ => ?_))
  all_goals first | exact ht (by unfold m_wd; grind) | exact hf (by unfold m_wd; grind)
theorem x_m_writes (d : Nat) : S_m_writes (sc_wpM (d + 2)) := fun I D K v ht hf => sc_open (d := d + 1) rfl (z_m_writes (sc_wpM (d + 1)) (x_m_in (d + 0)) I D K v ht hf)
abbrev S_m_usesFirst (C : sc_CT) : Prop := ∀ (I : sc_I) (D : sc_R) (K : sc_RT) (v : Int32) (ht : m_us v → K (some (.inl 1)) I D) (hf : ¬ m_us v → K (some (.inl 0)) I D), C 54 [.inl v] I D K
theorem z_m_usesFirst (C : sc_CT) (c1 : S_m_in C) (I : sc_I) (D : sc_R) (K : sc_RT) (v : Int32) (ht : m_us v → K (some (.inl 1)) I D) (hf : ¬ m_us v → K (some (.inl 0)) I D) : sc_wp C K (sc_t 54) 5000 (sc_t 54) (sc_al 0 [.inl v]) [] I D := by
  repeat' (first | (show _ ∧ _; first | refine And.intro (Or.inl rfl) ?_ | refine And.intro (Or.inr rfl) ?_ | refine And.intro (sc_vi (by decide)) ?_ | refine br_t (by decide) ?_ | refine br_f (by decide) ?_ | refine And.intro (fun _ => ?_) (fun _ => ?_)) | refine c1 _ _ _ _ _ _ (fun _ => ?_) (fun _ => ?_))
  all_goals first | exact ht (by unfold m_us; grind) | exact hf (by unfold m_us; grind)
theorem x_m_usesFirst (d : Nat) : S_m_usesFirst (sc_wpM (d + 2)) := fun I D K v ht hf => sc_open (d := d + 1) rfl (z_m_usesFirst (sc_wpM (d + 1)) (x_m_in (d + 0)) I D K v ht hf)
abbrev S_m_usesSecond (C : sc_CT) : Prop := ∀ (I : sc_I) (D : sc_R) (K : sc_RT) (v : Int32) (ht : m_ut v → K (some (.inl 1)) I D) (hf : ¬ m_ut v → K (some (.inl 0)) I D), C 55 [.inl v] I D K
theorem z_m_usesSecond (C : sc_CT) (c1 : S_m_in C) (I : sc_I) (D : sc_R) (K : sc_RT) (v : Int32) (ht : m_ut v → K (some (.inl 1)) I D) (hf : ¬ m_ut v → K (some (.inl 0)) I D) : sc_wp C K (sc_t 55) 5000 (sc_t 55) (sc_al 0 [.inl v]) [] I D := by
  repeat' (first | (show _ ∧ _; first | refine And.intro (Or.inl rfl) ?_ | refine And.intro (Or.inr rfl) ?_ | refine And.intro (sc_vi (by decide)) ?_ | refine br_t (by decide) ?_ | refine br_f (by decide) ?_ | refine And.intro (fun _ => ?_) (fun _ => ?_)) | refine c1 _ _ _ _ _ _ (fun _ => ?_) (fun _ => ?_))
  all_goals first | exact ht (by unfold m_ut; grind) | exact hf (by unfold m_ut; grind)
theorem x_m_usesSecond (d : Nat) : S_m_usesSecond (sc_wpM (d + 2)) := fun I D K v ht hf => sc_open (d := d + 1) rfl (z_m_usesSecond (sc_wpM (d + 1)) (x_m_in (d + 0)) I D K v ht hf)
abbrev S_m_empty (C : sc_CT) : Prop := ∀ (I : sc_I) (D : sc_R) (K : sc_RT) (h : K none (m_emp I) D), C 50 [.inr (3, 0)] I D K
theorem z_m_empty (C : sc_CT)  (I : sc_I) (D : sc_R) (K : sc_RT) (h : K none (m_emp I) D) : sc_wp C K (sc_t 50) 5000 (sc_t 50) (sc_al 0 [.inr (3, 0)]) [] I D := by
  repeat' (first | (show _ ∧ _; first | refine And.intro (Or.inl rfl) ?_ | refine And.intro (Or.inr rfl) ?_ | refine And.intro (sc_vi (by decide)) ?_ | refine br_t (by decide) ?_ | refine br_f (by decide) ?_ | refine And.intro (fun _ => ?_) (fun _ => ?_)))
  all_goals exact h
theorem x_m_empty (d : Nat) : S_m_empty (sc_wpM (d + 1)) := fun I D K h => sc_open (d := d) rfl (z_m_empty (sc_wpM (d))  I D K h)
abbrev S_m_move0 (C : sc_CT) : Prop := ∀ (I : sc_I) (D : sc_R) (K : sc_RT) (h : K none (m_move 0 I) D), C 56 [.inr (3, 0), .inl 0] I D K
theorem z_m_move0 (C : sc_CT)  (I : sc_I) (D : sc_R) (K : sc_RT) (h : K none (m_move 0 I) D) : sc_wp C K (sc_t 56) 5000 (sc_t 56) (sc_al 0 [.inr (3, 0), .inl 0]) [] I D := by
  repeat' (first | (show _ ∧ _; first | refine And.intro (Or.inl rfl) ?_ | refine And.intro (Or.inr rfl) ?_ | refine And.intro (sc_vi (by decide)) ?_ | refine br_t (by decide) ?_ | refine br_f (by decide) ?_ | refine And.intro (fun _ => ?_) (fun _ => ?_)))
  all_goals exact h
theorem x_m_move0 (d : Nat) : S_m_move0 (sc_wpM (d + 1)) := fun I D K h => sc_open (d := d) rfl (z_m_move0 (sc_wpM (d))  I D K h)
abbrev S_m_move1 (C : sc_CT) : Prop := ∀ (I : sc_I) (D : sc_R) (K : sc_RT) (h : K none (m_move 1 I) D), C 56 [.inr (3, 0), .inl 1] I D K
theorem z_m_move1 (C : sc_CT)  (I : sc_I) (D : sc_R) (K : sc_RT) (h : K none (m_move 1 I) D) : sc_wp C K (sc_t 56) 5000 (sc_t 56) (sc_al 0 [.inr (3, 0), .inl 1]) [] I D := by
  repeat' (first | (show _ ∧ _; first | refine And.intro (Or.inl rfl) ?_ | refine And.intro (Or.inr rfl) ?_ | refine And.intro (sc_vi (by decide)) ?_ | refine br_t (by decide) ?_ | refine br_f (by decide) ?_ | refine And.intro (fun _ => ?_) (fun _ => ?_)))
  all_goals exact h
theorem x_m_move1 (d : Nat) : S_m_move1 (sc_wpM (d + 1)) := fun I D K h => sc_open (d := d) rfl (z_m_move1 (sc_wpM (d))  I D K h)
abbrev S_m_move2 (C : sc_CT) : Prop := ∀ (I : sc_I) (D : sc_R) (K : sc_RT) (h : K none (m_move 2 I) D), C 56 [.inr (3, 0), .inl 2] I D K
theorem z_m_move2 (C : sc_CT)  (I : sc_I) (D : sc_R) (K : sc_RT) (h : K none (m_move 2 I) D) : sc_wp C K (sc_t 56) 5000 (sc_t 56) (sc_al 0 [.inr (3, 0), .inl 2]) [] I D := by
  repeat' (first | (show _ ∧ _; first | refine And.intro (Or.inl rfl) ?_ | refine And.intro (Or.inr rfl) ?_ | refine And.intro (sc_vi (by decide)) ?_ | refine br_t (by decide) ?_ | refine br_f (by decide) ?_ | refine And.intro (fun _ => ?_) (fun _ => ?_)))
  all_goals exact h
theorem x_m_move2 (d : Nat) : S_m_move2 (sc_wpM (d + 1)) := fun I D K h => sc_open (d := d) rfl (z_m_move2 (sc_wpM (d))  I D K h)
abbrev S_m_move3 (C : sc_CT) : Prop := ∀ (I : sc_I) (D : sc_R) (K : sc_RT) (h : K none (m_move 3 I) D), C 56 [.inr (3, 0), .inl 3] I D K
theorem z_m_move3 (C : sc_CT)  (I : sc_I) (D : sc_R) (K : sc_RT) (h : K none (m_move 3 I) D) : sc_wp C K (sc_t 56) 5000 (sc_t 56) (sc_al 0 [.inr (3, 0), .inl 3]) [] I D := by
  repeat' (first | (show _ ∧ _; first | refine And.intro (Or.inl rfl) ?_ | refine And.intro (Or.inr rfl) ?_ | refine And.intro (sc_vi (by decide)) ?_ | refine br_t (by decide) ?_ | refine br_f (by decide) ?_ | refine And.intro (fun _ => ?_) (fun _ => ?_)))
  all_goals exact h
theorem x_m_move3 (d : Nat) : S_m_move3 (sc_wpM (d + 1)) := fun I D K h => sc_open (d := d) rfl (z_m_move3 (sc_wpM (d))  I D K h)
end
section
abbrev m_wdD (x : Int32) : Prop := (0 ≤ x ∧ x ≤ 11) ∨ x = 15 ∨ x = 16
abbrev m_usD (x : Int32) : Prop := (0 ≤ x ∧ x ≤ 9) ∨ (11 ≤ x ∧ x ≤ 14) ∨ x = 16
abbrev m_utD (x : Int32) : Prop := (0 ≤ x ∧ x ≤ 8) ∨ (12 ≤ x ∧ x ≤ 14)
def m_lv (J : sc_I) : sc_I := if J 5 0 4 = 0 then J else if J 4 21 4 ≤ 0 then (if J 4 13 4 = 18 then m_hlt J else if m_wdD (J 4 13 4) ∧ ¬ J 4 14 4 = 0 then m_retW J else m_retN J) else m_flt J
abbrev m_end (J : sc_I) : Prop := ¬ J 5 0 4 = 0 ∧ (¬ J 4 21 4 ≤ 0 ∨ J 4 13 4 = 18)
def m_ld (J : sc_I) : sc_I := sc_u (m_move 3 J) 4 19 4 (J 4 9 (J 4 20 3).toNatClampNeg)
def m_sto (J : sc_I) : sc_I := sc_u (m_move 3 J) 4 9 (J 4 20 3).toNatClampNeg (J 4 19 3)
def m_rem (J : sc_I) : sc_I := if J 5 0 3 = 0 then J else if J 4 21 3 = 0 then (if J 4 13 3 = 11 then m_ld J else if J 4 13 3 = 12 then m_sto J else m_move 3 J) else m_move 3 J
abbrev m_ah (J : sc_I) (r : Int32) : Prop := ¬ J 5 0 4 = 0 ∧ J 4 21 4 = 0 ∧ m_wdD (J 4 13 4) ∧ J 4 14 4 = r ∧ ¬ r = 0
def m_rd (J : sc_I) (r : Int32) : Int32 := if m_ah J r then J 4 19 4 else J 4 10 r.toNatClampNeg
def m_rk (o x y : Int32) : Int32 := if o = 0 then x + y else if o = 1 then x - y else if o = 2 then x &&& y else if o = 3 then x ||| y else if o = 4 then x ^^^ y else if o = 5 then x <<< (y &&& 31 &&& 31) else if o = 6 then (if x < y then 1 else 0) else if o = 7 then x * y else if y = 0 then 0 else x / y
abbrev S_m_leave (C : sc_CT) : Prop := ∀ (I : sc_I) (D : sc_R) (K : sc_RT) (hd : vp_in (I 4 14 4) 16) (ht : m_end I → K (some (.inl 1)) (m_lv I) D) (hf : ¬ m_end I → K (some (.inl 0)) (m_lv I) D), C 57 [.inr (3, 0)] I D K
set_option maxRecDepth 100000 in
theorem z_m_leave (C : sc_CT) (c1 : S_m_empty C) (c2 : S_m_writes C) (I : sc_I) (D : sc_R) (K : sc_RT) (hd : vp_in (I 4 14 4) 16) (ht : m_end I → K (some (.inl 1)) (m_lv I) D) (hf : ¬ m_end I → K (some (.inl 0)) (m_lv I) D) : sc_wp C K (sc_t 57) 5000 (sc_t 57) (sc_al 0 [.inr (3, 0)]) [] I D := by
  unfold m_lv at ht hf
  by_cases h0 : I 5 0 4 = 0
  · rw [if_pos h0] at hf
    refine And.intro (sc_vi (by decide)) (br_t h0 (And.intro (Or.inl rfl) (hf (fun z => z.1 h0))))
  rw [if_neg h0] at ht hf
  refine And.intro (sc_vi (by decide)) (br_f h0 (And.intro (Or.inl rfl) (And.intro (sc_vi (by decide)) (And.intro (sc_vi (by decide)) ?_))))
  by_cases h1 : I 4 21 4 ≤ 0
  · rw [if_pos h1] at ht hf
    refine br_t h1 (And.intro (sc_vi (by decide)) ?_)
    by_cases h2 : I 4 13 4 = 18
    · rw [if_pos h2] at ht
      refine br_t h2 ?_
      repeat' (first | (show _ ∧ _; first | refine And.intro (Or.inl rfl) ?_ | refine And.intro (Or.inr rfl) ?_ | refine And.intro (sc_vi (by decide)) ?_ | refine br_t (by decide) ?_ | refine br_f (by decide) ?_ | refine And.intro (fun _ => ?_) (fun _ => ?_)) | refine c1 _ _ _ ?_ | refine c2 _ _ _ _ (fun _ => ?_) (fun _ => ?_))
      exact ht ⟨h0, Or.inr h2⟩
    · rw [if_neg h2] at hf
      refine br_f h2 ?_
      have hf := hf (fun z => z.2.elim (fun a => a h1) h2)
      have hk : (I 3 0 31 < 16 ∧ m_kept (I 3 0 31) = I 3 0 31 + 1 ∧ ¬ 16 ≤ I 3 0 31) ∨ (¬ I 3 0 31 < 16 ∧ m_kept (I 3 0 31) = 16 ∧ 16 ≤ I 3 0 31) := by
        by_cases hk : I 3 0 31 < 16
        · exact Or.inl ⟨hk, if_pos hk, by grind⟩
        · exact Or.inr ⟨hk, if_neg hk, by grind⟩
      refine And.intro (sc_vi (by decide)) (c2 _ _ _ _ (fun h3 => ?_) (fun h3 => ?_))
      · refine br_f (by decide) (And.intro (sc_vi (by decide)) ?_)
        by_cases h4 : I 4 14 4 = 0
        · refine br_t h4 ?_
          rw [if_neg (fun z => z.2 h4)] at hf
          rcases hk with ⟨-, ek, hk⟩ | ⟨-, ek, hk⟩
          · unfold m_retN at hf
            rw [ek] at hf
            repeat' (first | (show _ ∧ _; first | refine br_f hk ?_ | refine And.intro (Or.inl rfl) ?_ | refine And.intro (Or.inr rfl) ?_ | refine And.intro (sc_vi (by decide)) ?_ | refine br_t (by decide) ?_ | refine br_f (by decide) ?_ | refine And.intro (fun _ => ?_) (fun _ => ?_)) | refine c1 _ _ _ ?_ | refine c2 _ _ _ _ (fun _ => ?_) (fun _ => ?_))
            exact hf
          · unfold m_retN at hf
            rw [ek] at hf
            repeat' (first | (show _ ∧ _; first | refine br_t hk ?_ | refine And.intro (Or.inl rfl) ?_ | refine And.intro (Or.inr rfl) ?_ | refine And.intro (sc_vi (by decide)) ?_ | refine br_t (by decide) ?_ | refine br_f (by decide) ?_ | refine And.intro (fun _ => ?_) (fun _ => ?_)) | refine c1 _ _ _ ?_ | refine c2 _ _ _ _ (fun _ => ?_) (fun _ => ?_))
            exact hf
        · refine br_f h4 (And.intro (sc_vi (by decide)) (And.intro (sc_vi (by decide)) (And.intro hd ?_)))
          rw [if_pos ⟨h3, h4⟩] at hf
          rcases hk with ⟨-, ek, hk⟩ | ⟨-, ek, hk⟩
          · unfold m_retW at hf
            rw [ek] at hf
            repeat' (first | (show _ ∧ _; first | refine br_f hk ?_ | refine And.intro (Or.inl rfl) ?_ | refine And.intro (Or.inr rfl) ?_ | refine And.intro (sc_vi (by decide)) ?_ | refine br_t (by decide) ?_ | refine br_f (by decide) ?_ | refine And.intro (fun _ => ?_) (fun _ => ?_)) | refine c1 _ _ _ ?_ | refine c2 _ _ _ _ (fun _ => ?_) (fun _ => ?_))
            exact hf
          · unfold m_retW at hf
            rw [ek] at hf
            repeat' (first | (show _ ∧ _; first | refine br_t hk ?_ | refine And.intro (Or.inl rfl) ?_ | refine And.intro (Or.inr rfl) ?_ | refine And.intro (sc_vi (by decide)) ?_ | refine br_t (by decide) ?_ | refine br_f (by decide) ?_ | refine And.intro (fun _ => ?_) (fun _ => ?_)) | refine c1 _ _ _ ?_ | refine c2 _ _ _ _ (fun _ => ?_) (fun _ => ?_))
            exact hf
      · refine br_t (by decide) ?_
        rw [if_neg (fun z => h3 z.1)] at hf
        rcases hk with ⟨-, ek, hk⟩ | ⟨-, ek, hk⟩
        · unfold m_retN at hf
          rw [ek] at hf
          repeat' (first | (show _ ∧ _; first | refine br_f hk ?_ | refine And.intro (Or.inl rfl) ?_ | refine And.intro (Or.inr rfl) ?_ | refine And.intro (sc_vi (by decide)) ?_ | refine br_t (by decide) ?_ | refine br_f (by decide) ?_ | refine And.intro (fun _ => ?_) (fun _ => ?_)) | refine c1 _ _ _ ?_ | refine c2 _ _ _ _ (fun _ => ?_) (fun _ => ?_))
          exact hf
        · unfold m_retN at hf
          rw [ek] at hf
          repeat' (first | (show _ ∧ _; first | refine br_t hk ?_ | refine And.intro (Or.inl rfl) ?_ | refine And.intro (Or.inr rfl) ?_ | refine And.intro (sc_vi (by decide)) ?_ | refine br_t (by decide) ?_ | refine br_f (by decide) ?_ | refine And.intro (fun _ => ?_) (fun _ => ?_)) | refine c1 _ _ _ ?_ | refine c2 _ _ _ _ (fun _ => ?_) (fun _ => ?_))
          exact hf
  · rw [if_neg h1] at ht
    refine br_f h1 ?_
    repeat' (first | (show _ ∧ _; first | refine And.intro (Or.inl rfl) ?_ | refine And.intro (Or.inr rfl) ?_ | refine And.intro (sc_vi (by decide)) ?_ | refine br_t (by decide) ?_ | refine br_f (by decide) ?_ | refine And.intro (fun _ => ?_) (fun _ => ?_)) | refine c1 _ _ _ ?_ | refine c2 _ _ _ _ (fun _ => ?_) (fun _ => ?_))
    exact ht ⟨h0, Or.inl h1⟩
theorem x_m_leave (d : Nat) : S_m_leave (sc_wpM (d + 3)) := fun I D K hd ht hf => sc_open (d := d + 2) rfl (z_m_leave (sc_wpM (d + 2)) (x_m_empty (d + 1)) (x_m_writes (d + 0)) I D K hd ht hf)
abbrev S_m_remember (C : sc_CT) : Prop := ∀ (I : sc_I) (D : sc_R) (K : sc_RT) (ha : ¬ I 5 0 3 = 0 → I 4 21 3 = 0 → (I 4 13 3 = 11 ∨ I 4 13 3 = 12) → vp_in (I 4 20 3) 32) (h : K none (m_rem I) D), C 58 [.inr (3, 0)] I D K
theorem z_m_remember (C : sc_CT) (c1 : S_m_move3 C) (I : sc_I) (D : sc_R) (K : sc_RT) (ha : ¬ I 5 0 3 = 0 → I 4 21 3 = 0 → (I 4 13 3 = 11 ∨ I 4 13 3 = 12) → vp_in (I 4 20 3) 32) (h : K none (m_rem I) D) : sc_wp C K (sc_t 58) 5000 (sc_t 58) (sc_al 0 [.inr (3, 0)]) [] I D := by
  unfold m_rem at h
  by_cases h0 : I 5 0 3 = 0
  · rw [if_pos h0] at h
    exact And.intro (sc_vi (by decide)) (br_t h0 h)
  rw [if_neg h0] at h
  refine And.intro (sc_vi (by decide)) (br_f h0 (c1 _ _ _ ?_))
  refine And.intro (sc_vi (by decide)) ?_
  by_cases h1 : I 4 21 3 = 0
  · rw [if_pos h1] at h
    refine br_t h1 (And.intro (sc_vi (by decide)) ?_)
    by_cases h2 : I 4 13 3 = 11
    · rw [if_pos h2] at h
      refine br_t h2 (And.intro (sc_vi (by decide)) (And.intro (ha h0 h1 (Or.inl h2)) (And.intro (sc_vi (by decide)) (And.intro (sc_vi (by decide)) ?_))))
      refine br_t h1 (And.intro (sc_vi (by decide)) ?_)
      have h3 : ¬ I 4 13 3 = 12 := fun e => absurd (h2.symm.trans e) (by decide)
      exact br_f h3 h
    · rw [if_neg h2] at h
      refine br_f h2 (And.intro (sc_vi (by decide)) (br_t h1 (And.intro (sc_vi (by decide)) ?_)))
      by_cases h3 : I 4 13 3 = 12
      · rw [if_pos h3] at h
        exact br_t h3 (And.intro (sc_vi (by decide)) (And.intro (sc_vi (by decide)) (And.intro (ha h0 h1 (Or.inr h3)) h)))
      · rw [if_neg h3] at h
        exact br_f h3 h
  · rw [if_neg h1] at h
    exact br_f h1 (And.intro (sc_vi (by decide)) (br_f h1 h))
theorem x_m_remember (d : Nat) : S_m_remember (sc_wpM (d + 2)) := fun I D K ha h => sc_open (d := d + 1) rfl (z_m_remember (sc_wpM (d + 1)) (x_m_move3 (d + 0)) I D K ha h)
abbrev S_m_read (C : sc_CT) : Prop := ∀ (I : sc_I) (D : sc_R) (K : sc_RT) (r : Int32) (hr : vp_in r 16) (h : K (some (.inl (m_rd I r))) I D), C 59 [.inr (3, 0), .inl r] I D K
theorem z_m_read (C : sc_CT) (c1 : S_m_writes C) (I : sc_I) (D : sc_R) (K : sc_RT) (r : Int32) (hr : vp_in r 16) (h : K (some (.inl (m_rd I r))) I D) : sc_wp C K (sc_t 59) 5000 (sc_t 59) (sc_al 0 [.inr (3, 0), .inl r]) [] I D := by
  unfold m_rd at h
  by_cases ha : m_ah I r
  · rw [if_pos ha] at h
    obtain ⟨h0, h1, h2, h3, h4⟩ := ha
    repeat' (first | (show _ ∧ _; first | refine br_f h0 ?_ | refine br_t h1 ?_ | refine br_t h3 ?_ | refine br_f h4 ?_ | refine And.intro (Or.inl rfl) ?_ | refine And.intro (Or.inr rfl) ?_ | refine And.intro (sc_vi (by decide)) ?_ | refine br_t (by decide) ?_ | refine br_f (by decide) ?_ | refine And.intro (fun _ => ?_) (fun _ => ?_)) | refine c1 _ _ _ _ (fun _ => ?_) (fun _ => ?_))
    · exact h
    · exact absurd h2 (by assumption)
  · rw [if_neg ha] at h
    repeat' (first | (show _ ∧ _; first | refine And.intro hr ?_ | refine And.intro (Or.inl rfl) ?_ | refine And.intro (Or.inr rfl) ?_ | refine And.intro (sc_vi (by decide)) ?_ | refine br_t (by decide) ?_ | refine br_f (by decide) ?_ | refine And.intro (fun _ => ?_) (fun _ => ?_)) | refine c1 _ _ _ _ (fun _ => ?_) (fun _ => ?_))
    all_goals first | exact h | exact absurd ⟨by assumption, by assumption, by assumption, by assumption, by assumption⟩ ha
theorem x_m_read (d : Nat) : S_m_read (sc_wpM (d + 3)) := fun I D K r hr h => sc_open (d := d + 2) rfl (z_m_read (sc_wpM (d + 2)) (x_m_writes (d + 0)) I D K r hr h)
abbrev S_m_reckon (C : sc_CT) : Prop := ∀ (I : sc_I) (D : sc_R) (K : sc_RT) (o x y : Int32) (h : K (some (.inl (m_rk o x y))) I D), C 60 [.inl o, .inl x, .inl y] I D K
theorem z_m_reckon (C : sc_CT)  (I : sc_I) (D : sc_R) (K : sc_RT) (o x y : Int32) (h : K (some (.inl (m_rk o x y))) I D) : sc_wp C K (sc_t 60) 5000 (sc_t 60) (sc_al 0 [.inl o, .inl x, .inl y]) [] I D := by
  unfold m_rk at h
  refine And.intro (fun h0 => ?_) (fun h0 => ?_)
  · rw [if_pos h0] at h; exact h
  rw [if_neg h0] at h
  refine And.intro (fun h0 => ?_) (fun h0 => ?_)
  · rw [if_pos h0] at h; exact h
  rw [if_neg h0] at h
  refine And.intro (fun h0 => ?_) (fun h0 => ?_)
  · rw [if_pos h0] at h; exact h
  rw [if_neg h0] at h
  refine And.intro (fun h0 => ?_) (fun h0 => ?_)
  · rw [if_pos h0] at h; exact h
  rw [if_neg h0] at h
  refine And.intro (fun h0 => ?_) (fun h0 => ?_)
  · rw [if_pos h0] at h; exact h
  rw [if_neg h0] at h
  refine And.intro (fun h0 => ?_) (fun h0 => ?_)
  · rw [if_pos h0] at h; exact h
  rw [if_neg h0] at h
  refine And.intro (fun h0 => ?_) (fun h0 => ?_)
  · rw [if_pos h0] at h
    refine And.intro (fun h1 => ?_) (fun h1 => ?_)
    · rw [if_neg (by grind)] at h; exact h
    · rw [if_pos (by grind)] at h; exact h
  rw [if_neg h0] at h
  refine And.intro (fun h0 => ?_) (fun h0 => ?_)
  · rw [if_pos h0] at h; exact h
  rw [if_neg h0] at h
  refine And.intro (fun h1 => ?_) (fun h1 => ?_)
  · rw [if_pos h1] at h; exact h
  · rw [if_neg h1] at h; exact And.intro h1 h
theorem x_m_reckon (d : Nat) : S_m_reckon (sc_wpM (d + 1)) := fun I D K o x y h => sc_open (d := d) rfl (z_m_reckon (sc_wpM (d))  I D K o x y h)
def m_up (v : Int32) : Int32 := if 3 ≤ v then 3 else v + 1
def m_dn (v : Int32) : Int32 := if v ≤ 0 then 0 else v - 1
abbrev m_go (o x y : Int32) : Prop := (x = y ∧ o = 13) ∨ (¬ x = y ∧ ¬ o = 13)
def m_wkN (J : sc_I) : Int32 :=
  if J 4 13 2 = 13 ∨ J 4 13 2 = 14 then (if m_go (J 4 13 2) (m_rd J (J 4 15 2)) (m_rd J (J 4 16 2)) then J 4 12 2 + J 4 17 2 else J 4 12 2 + 1)
  else if J 4 13 2 = 15 then J 4 12 2 + J 4 17 2 else if J 4 13 2 = 16 then m_rd J (J 4 15 2) + J 4 17 2 else J 4 12 2 + 1
def m_wkS (J : sc_I) : sc_I :=
  if 8 < J 4 13 2 then
    (if J 4 13 2 = 9 then sc_u J 4 19 2 (m_rd J (J 4 15 2) + J 4 17 2)
    else if J 4 13 2 = 10 then sc_u J 4 19 2 (J 4 17 2)
    else if J 4 13 2 = 11 ∨ J 4 13 2 = 12 then sc_u (sc_u (sc_u J 4 20 2 (m_rd J (J 4 15 2) + J 4 17 2)) 4 21 2 (if 0 ≤ m_rd J (J 4 15 2) + J 4 17 2 ∧ m_rd J (J 4 15 2) + J 4 17 2 ≤ 31 then J 4 21 2 else 3)) 4 19 2 (m_rd J (J 4 16 2))
    else if J 4 13 2 = 13 ∨ J 4 13 2 = 14 then sc_u (sc_u J 4 11 (J 4 12 2 &&& 7).toNatClampNeg (if m_go (J 4 13 2) (m_rd J (J 4 15 2)) (m_rd J (J 4 16 2)) then m_up (J 4 11 (J 4 12 2 &&& 7).toNatClampNeg) else m_dn (J 4 11 (J 4 12 2 &&& 7).toNatClampNeg))) 4 19 2 0
    else if J 4 13 2 = 15 ∨ J 4 13 2 = 16 then sc_u J 4 19 2 (J 4 12 2 + 1)
    else if J 4 13 2 = 17 then sc_u (sc_u J 4 21 2 2) 4 19 2 0
    else sc_u J 4 19 2 0)
  else sc_u (sc_u J 4 21 2 (if J 4 13 2 = 8 ∧ m_rd J (J 4 16 2) = 0 then 4 else J 4 21 2)) 4 19 2 (m_rk (J 4 13 2) (m_rd J (J 4 15 2)) (m_rd J (J 4 16 2)))
theorem m_and7 (x : Int32) : vp_in (x &&& 7) 8 := pk_andIn x (m := 7) 3 (by decide) (by decide)
abbrev S_m_work (C : sc_CT) : Prop := ∀ (I : sc_I) (D : sc_R) (K : sc_RT) (hs : vp_in (I 4 15 2) 16) (ht : vp_in (I 4 16 2) 16) (h : K (some (.inl (m_wkN I))) (m_wkS I) D), C 61 [.inr (3, 0)] I D K
set_option maxRecDepth 100000 in
set_option maxHeartbeats 8000000 in
theorem z_m_work (C : sc_CT) (c1 : S_m_read C) (c2 : S_m_reckon C) (c3 : S_m_in C) (I : sc_I) (D : sc_R) (K : sc_RT) (hs : vp_in (I 4 15 2) 16) (ht : vp_in (I 4 16 2) 16) (h : K (some (.inl (m_wkN I))) (m_wkS I) D) : sc_wp C K (sc_t 61) 5000 (sc_t 61) (sc_al 0 [.inr (3, 0)]) [] I D := by
  unfold m_wkN m_wkS at h
  refine And.intro (sc_vi (by decide)) (And.intro (sc_vi (by decide)) (c1 _ _ _ _ hs ?_))
  refine And.intro (sc_vi (by decide)) (c1 _ _ _ _ ht ?_)
  refine And.intro (sc_vi (by decide)) (And.intro (sc_vi (by decide)) ?_)
  by_cases h8 : 8 < I 4 13 2
  · rw [if_pos h8] at h
    refine br_t h8 ?_
    by_cases h9 : I 4 13 2 = 9
    · rw [if_pos h9, if_neg (by rw [h9]; decide), if_neg (by rw [h9]; decide), if_neg (by rw [h9]; decide)] at h
      have h10 : ¬ I 4 13 2 = 10 := by rw [h9]; decide
      exact br_t h9 (br_f h10 (And.intro (sc_vi (by decide)) h))
    rw [if_neg h9] at h
    refine br_f h9 ?_
    by_cases h10 : I 4 13 2 = 10
    · rw [if_pos h10, if_neg (by rw [h10]; decide), if_neg (by rw [h10]; decide), if_neg (by rw [h10]; decide)] at h
      exact br_t h10 (br_t h10 (And.intro (sc_vi (by decide)) h))
    rw [if_neg h10] at h
    refine br_f h10 ?_
    by_cases h11 : I 4 13 2 = 11 ∨ I 4 13 2 = 12
    · rw [if_pos h11, if_neg (by rcases h11 with e | e <;> rw [e] <;> decide), if_neg (by rcases h11 with e | e <;> rw [e] <;> decide), if_neg (by rcases h11 with e | e <;> rw [e] <;> decide)] at h
      by_cases hin : 0 ≤ m_rd I (I 4 15 2) + I 4 17 2 ∧ m_rd I (I 4 15 2) + I 4 17 2 ≤ 31
      · rw [if_pos hin] at h
        rcases h11 with e | e
        · repeat' (first | (show _ ∧ _; first | refine br_t e ?_ | refine And.intro (Or.inl rfl) ?_ | refine And.intro (Or.inr rfl) ?_ | refine And.intro (sc_vi (by decide)) ?_ | refine br_t (by decide) ?_ | refine br_f (by decide) ?_ | refine And.intro (fun _ => ?_) (fun _ => ?_)) | refine c2 _ _ _ _ _ _ ?_ | refine c3 _ _ _ _ _ _ (fun _ => ?_) (fun _ => ?_))
          · exact h
          · exact absurd hin (by assumption)
        · have e2 : ¬ I 4 13 2 = 11 := by rw [e]; decide
          repeat' (first | (show _ ∧ _; first | refine br_t e ?_ | refine br_f e2 ?_ | refine And.intro (Or.inl rfl) ?_ | refine And.intro (Or.inr rfl) ?_ | refine And.intro (sc_vi (by decide)) ?_ | refine br_t (by decide) ?_ | refine br_f (by decide) ?_ | refine And.intro (fun _ => ?_) (fun _ => ?_)) | refine c2 _ _ _ _ _ _ ?_ | refine c3 _ _ _ _ _ _ (fun _ => ?_) (fun _ => ?_))
          · exact h
          · exact absurd hin (by assumption)
      · rw [if_neg hin] at h
        rcases h11 with e | e
        · repeat' (first | (show _ ∧ _; first | refine br_t e ?_ | refine And.intro (Or.inl rfl) ?_ | refine And.intro (Or.inr rfl) ?_ | refine And.intro (sc_vi (by decide)) ?_ | refine br_t (by decide) ?_ | refine br_f (by decide) ?_ | refine And.intro (fun _ => ?_) (fun _ => ?_)) | refine c2 _ _ _ _ _ _ ?_ | refine c3 _ _ _ _ _ _ (fun _ => ?_) (fun _ => ?_))
          · exact absurd (by assumption) hin
          · exact h
        · have e2 : ¬ I 4 13 2 = 11 := by rw [e]; decide
          repeat' (first | (show _ ∧ _; first | refine br_t e ?_ | refine br_f e2 ?_ | refine And.intro (Or.inl rfl) ?_ | refine And.intro (Or.inr rfl) ?_ | refine And.intro (sc_vi (by decide)) ?_ | refine br_t (by decide) ?_ | refine br_f (by decide) ?_ | refine And.intro (fun _ => ?_) (fun _ => ?_)) | refine c2 _ _ _ _ _ _ ?_ | refine c3 _ _ _ _ _ _ (fun _ => ?_) (fun _ => ?_))
          · exact absurd (by assumption) hin
          · exact h
    rw [if_neg h11] at h
    have h11a : ¬ I 4 13 2 = 11 := fun e => h11 (Or.inl e)
    have h11b : ¬ I 4 13 2 = 12 := fun e => h11 (Or.inr e)
    refine br_f h11a (br_f h11b ?_)
    by_cases h13 : I 4 13 2 = 13 ∨ I 4 13 2 = 14
    · rw [if_pos h13, if_pos h13] at h
      have hc : (3 ≤ I 4 11 (I 4 12 2 &&& 7).toNatClampNeg ∧ m_up (I 4 11 (I 4 12 2 &&& 7).toNatClampNeg) = 3) ∨ (¬ 3 ≤ I 4 11 (I 4 12 2 &&& 7).toNatClampNeg ∧ m_up (I 4 11 (I 4 12 2 &&& 7).toNatClampNeg) = I 4 11 (I 4 12 2 &&& 7).toNatClampNeg + 1) := by
        by_cases z : 3 ≤ I 4 11 (I 4 12 2 &&& 7).toNatClampNeg
        · exact Or.inl ⟨z, if_pos z⟩
        · exact Or.inr ⟨z, if_neg z⟩
      have hd : (I 4 11 (I 4 12 2 &&& 7).toNatClampNeg ≤ 0 ∧ m_dn (I 4 11 (I 4 12 2 &&& 7).toNatClampNeg) = 0) ∨ (¬ I 4 11 (I 4 12 2 &&& 7).toNatClampNeg ≤ 0 ∧ m_dn (I 4 11 (I 4 12 2 &&& 7).toNatClampNeg) = I 4 11 (I 4 12 2 &&& 7).toNatClampNeg - 1) := by
        by_cases z : I 4 11 (I 4 12 2 &&& 7).toNatClampNeg ≤ 0
        · exact Or.inl ⟨z, if_pos z⟩
        · exact Or.inr ⟨z, if_neg z⟩
      by_cases hxy : m_rd I (I 4 15 2) = m_rd I (I 4 16 2)
      · rcases h13 with e | e
        · rw [if_pos (Or.inl ⟨hxy, e⟩), if_pos (Or.inl ⟨hxy, e⟩)] at h
          rcases hc with ⟨k3, ec⟩ | ⟨k3, ec⟩
          · rw [ec] at h
            repeat' (first | (show _ ∧ _; first | refine br_t e ?_ | refine br_t hxy ?_ | refine And.intro (m_and7 _) ?_ | refine br_t k3 ?_ | refine And.intro (Or.inl rfl) ?_ | refine And.intro (Or.inr rfl) ?_ | refine And.intro (sc_vi (by decide)) ?_ | refine br_t (by decide) ?_ | refine br_f (by decide) ?_ | refine And.intro (fun _ => ?_) (fun _ => ?_)) | refine c2 _ _ _ _ _ _ ?_ | refine c3 _ _ _ _ _ _ (fun _ => ?_) (fun _ => ?_))
            exact h
          · rw [ec] at h
            repeat' (first | (show _ ∧ _; first | refine br_t e ?_ | refine br_t hxy ?_ | refine And.intro (m_and7 _) ?_ | refine br_f k3 ?_ | refine And.intro (Or.inl rfl) ?_ | refine And.intro (Or.inr rfl) ?_ | refine And.intro (sc_vi (by decide)) ?_ | refine br_t (by decide) ?_ | refine br_f (by decide) ?_ | refine And.intro (fun _ => ?_) (fun _ => ?_)) | refine c2 _ _ _ _ _ _ ?_ | refine c3 _ _ _ _ _ _ (fun _ => ?_) (fun _ => ?_))
            exact h
        · have e2 : ¬ I 4 13 2 = 13 := by rw [e]; decide
          rw [if_neg (fun z => z.elim (fun w => e2 w.2) (fun w => w.1 hxy)), if_neg (fun z => z.elim (fun w => e2 w.2) (fun w => w.1 hxy))] at h
          rcases hd with ⟨k3, ec⟩ | ⟨k3, ec⟩
          · rw [ec] at h
            repeat' (first | (show _ ∧ _; first | refine br_t e ?_ | refine br_f e2 ?_ | refine br_t hxy ?_ | refine And.intro (m_and7 _) ?_ | refine br_t k3 ?_ | refine And.intro (Or.inl rfl) ?_ | refine And.intro (Or.inr rfl) ?_ | refine And.intro (sc_vi (by decide)) ?_ | refine br_t (by decide) ?_ | refine br_f (by decide) ?_ | refine And.intro (fun _ => ?_) (fun _ => ?_)) | refine c2 _ _ _ _ _ _ ?_ | refine c3 _ _ _ _ _ _ (fun _ => ?_) (fun _ => ?_))
            exact h
          · rw [ec] at h
            repeat' (first | (show _ ∧ _; first | refine br_t e ?_ | refine br_f e2 ?_ | refine br_t hxy ?_ | refine And.intro (m_and7 _) ?_ | refine br_f k3 ?_ | refine And.intro (Or.inl rfl) ?_ | refine And.intro (Or.inr rfl) ?_ | refine And.intro (sc_vi (by decide)) ?_ | refine br_t (by decide) ?_ | refine br_f (by decide) ?_ | refine And.intro (fun _ => ?_) (fun _ => ?_)) | refine c2 _ _ _ _ _ _ ?_ | refine c3 _ _ _ _ _ _ (fun _ => ?_) (fun _ => ?_))
            exact h
      · rcases h13 with e | e
        · rw [if_neg (fun z => z.elim (fun w => hxy w.1) (fun w => w.2 e)), if_neg (fun z => z.elim (fun w => hxy w.1) (fun w => w.2 e))] at h
          rcases hd with ⟨k3, ec⟩ | ⟨k3, ec⟩
          · rw [ec] at h
            repeat' (first | (show _ ∧ _; first | refine br_t e ?_ | refine br_f hxy ?_ | refine And.intro (m_and7 _) ?_ | refine br_t k3 ?_ | refine And.intro (Or.inl rfl) ?_ | refine And.intro (Or.inr rfl) ?_ | refine And.intro (sc_vi (by decide)) ?_ | refine br_t (by decide) ?_ | refine br_f (by decide) ?_ | refine And.intro (fun _ => ?_) (fun _ => ?_)) | refine c2 _ _ _ _ _ _ ?_ | refine c3 _ _ _ _ _ _ (fun _ => ?_) (fun _ => ?_))
            exact h
          · rw [ec] at h
            repeat' (first | (show _ ∧ _; first | refine br_t e ?_ | refine br_f hxy ?_ | refine And.intro (m_and7 _) ?_ | refine br_f k3 ?_ | refine And.intro (Or.inl rfl) ?_ | refine And.intro (Or.inr rfl) ?_ | refine And.intro (sc_vi (by decide)) ?_ | refine br_t (by decide) ?_ | refine br_f (by decide) ?_ | refine And.intro (fun _ => ?_) (fun _ => ?_)) | refine c2 _ _ _ _ _ _ ?_ | refine c3 _ _ _ _ _ _ (fun _ => ?_) (fun _ => ?_))
            exact h
        · have e2 : ¬ I 4 13 2 = 13 := by rw [e]; decide
          rw [if_pos (Or.inr ⟨hxy, e2⟩), if_pos (Or.inr ⟨hxy, e2⟩)] at h
          rcases hc with ⟨k3, ec⟩ | ⟨k3, ec⟩
          · rw [ec] at h
            repeat' (first | (show _ ∧ _; first | refine br_t e ?_ | refine br_f e2 ?_ | refine br_f hxy ?_ | refine And.intro (m_and7 _) ?_ | refine br_t k3 ?_ | refine And.intro (Or.inl rfl) ?_ | refine And.intro (Or.inr rfl) ?_ | refine And.intro (sc_vi (by decide)) ?_ | refine br_t (by decide) ?_ | refine br_f (by decide) ?_ | refine And.intro (fun _ => ?_) (fun _ => ?_)) | refine c2 _ _ _ _ _ _ ?_ | refine c3 _ _ _ _ _ _ (fun _ => ?_) (fun _ => ?_))
            exact h
          · rw [ec] at h
            repeat' (first | (show _ ∧ _; first | refine br_t e ?_ | refine br_f e2 ?_ | refine br_f hxy ?_ | refine And.intro (m_and7 _) ?_ | refine br_f k3 ?_ | refine And.intro (Or.inl rfl) ?_ | refine And.intro (Or.inr rfl) ?_ | refine And.intro (sc_vi (by decide)) ?_ | refine br_t (by decide) ?_ | refine br_f (by decide) ?_ | refine And.intro (fun _ => ?_) (fun _ => ?_)) | refine c2 _ _ _ _ _ _ ?_ | refine c3 _ _ _ _ _ _ (fun _ => ?_) (fun _ => ?_))
            exact h
    rw [if_neg h13, if_neg h13] at h
    have h13a : ¬ I 4 13 2 = 13 := fun e => h13 (Or.inl e)
    have h13b : ¬ I 4 13 2 = 14 := fun e => h13 (Or.inr e)
    refine br_f h13a (br_f h13b ?_)
    by_cases h15 : I 4 13 2 = 15
    · rw [if_pos h15, if_pos (Or.inl h15)] at h
      exact br_t h15 (br_t h15 (And.intro (sc_vi (by decide)) h))
    rw [if_neg h15] at h
    refine br_f h15 ?_
    by_cases h16 : I 4 13 2 = 16
    · rw [if_pos h16, if_pos (Or.inr h16)] at h
      exact br_t h16 (br_f h15 (And.intro (sc_vi (by decide)) h))
    rw [if_neg h16, if_neg (fun z => z.elim h15 h16)] at h
    refine br_f h16 ?_
    by_cases h17 : I 4 13 2 = 17
    · rw [if_pos h17] at h
      exact br_t h17 (And.intro (sc_vi (by decide)) (And.intro (sc_vi (by decide)) h))
    · rw [if_neg h17] at h
      exact br_f h17 (And.intro (sc_vi (by decide)) h)
  · have z : ∀ n : Int32, 8 < n → ¬ I 4 13 2 = n := fun n hn e => h8 (e ▸ hn)
    rw [if_neg h8, if_neg (fun w => w.elim (z 13 (by decide)) (z 14 (by decide))), if_neg (z 15 (by decide)), if_neg (z 16 (by decide))] at h
    refine br_f h8 (c2 _ _ _ _ _ _ ?_)
    by_cases e8 : I 4 13 2 = 8
    · refine br_t e8 ?_
      by_cases ey : m_rd I (I 4 16 2) = 0
      · rw [if_pos ⟨e8, ey⟩] at h
        refine br_t ey ?_
        repeat' (first | (show _ ∧ _; first | refine And.intro (Or.inl rfl) ?_ | refine And.intro (Or.inr rfl) ?_ | refine And.intro (sc_vi (by decide)) ?_ | refine br_t (by decide) ?_ | refine br_f (by decide) ?_ | refine And.intro (fun _ => ?_) (fun _ => ?_)) | refine c2 _ _ _ _ _ _ ?_ | refine c3 _ _ _ _ _ _ (fun _ => ?_) (fun _ => ?_))
        exact h
      · rw [if_neg (fun w => ey w.2)] at h
        refine br_f ey ?_
        repeat' (first | (show _ ∧ _; first | refine And.intro (Or.inl rfl) ?_ | refine And.intro (Or.inr rfl) ?_ | refine And.intro (sc_vi (by decide)) ?_ | refine br_t (by decide) ?_ | refine br_f (by decide) ?_ | refine And.intro (fun _ => ?_) (fun _ => ?_)) | refine c2 _ _ _ _ _ _ ?_ | refine c3 _ _ _ _ _ _ (fun _ => ?_) (fun _ => ?_))
        exact h
    · rw [if_neg (fun w => e8 w.1)] at h
      refine br_f e8 ?_
      repeat' (first | (show _ ∧ _; first | refine And.intro (Or.inl rfl) ?_ | refine And.intro (Or.inr rfl) ?_ | refine And.intro (sc_vi (by decide)) ?_ | refine br_t (by decide) ?_ | refine br_f (by decide) ?_ | refine And.intro (fun _ => ?_) (fun _ => ?_)) | refine c2 _ _ _ _ _ _ ?_ | refine c3 _ _ _ _ _ _ (fun _ => ?_) (fun _ => ?_))
      exact h
theorem x_m_work (d : Nat) : S_m_work (sc_wpM (d + 4)) := fun I D K hs ht h => sc_open (d := d + 3) rfl (z_m_work (sc_wpM (d + 3)) (x_m_read (d + 0)) (x_m_reckon (d + 2)) (x_m_in (d + 2)) I D K hs ht h)
end
section
def m_flush (nx : Int32) (J : sc_I) : sc_I := sc_u (sc_u (sc_u (sc_u J 3 0 29 (J 3 0 29 + 1)) 5 0 0 0) 5 0 1 0) 3 0 21 nx
def m_fin (J : sc_I) : sc_I := m_move 2 (if m_wkS J 4 21 2 = 0 ∧ ¬ m_wkN J = m_wkS J 4 18 2 then m_flush (m_wkN J) (m_wkS J) else m_wkS J)
abbrev m_wt (J : sc_I) (q : Int32) : Prop := ¬ q = 0 ∧ ((m_usD (J 4 13 2) ∧ J 4 15 2 = q) ∨ (m_utD (J 4 13 2) ∧ J 4 16 2 = q))
def m_rch (q : Int32) (J : sc_I) : sc_I := if J 5 0 2 = 0 then J else if m_wt J q then sc_u J 3 0 28 (J 3 0 28 + 1) else if J 3 0 20 - 1 ≤ 0 then m_fin (sc_u J 3 0 20 (J 3 0 20 - 1)) else sc_u (sc_u J 3 0 20 (J 3 0 20 - 1)) 3 0 28 (J 3 0 28 + 1)
abbrev S_m_reach (C : sc_CT) : Prop := ∀ (I : sc_I) (D : sc_R) (K : sc_RT) (q : Int32) (hs : vp_in (I 4 15 2) 16) (ht : vp_in (I 4 16 2) 16) (h : K none (m_rch q I) D), C 62 [.inr (3, 0), .inl q] I D K
set_option maxRecDepth 100000 in
set_option maxHeartbeats 4000000 in
theorem z_m_reach (C : sc_CT) (c1 : S_m_usesFirst C) (c2 : S_m_usesSecond C) (c3 : S_m_work C) (c4 : S_m_move2 C) (I : sc_I) (D : sc_R) (K : sc_RT) (q : Int32) (hs : vp_in (I 4 15 2) 16) (ht : vp_in (I 4 16 2) 16) (h : K none (m_rch q I) D) : sc_wp C K (sc_t 62) 5000 (sc_t 62) (sc_al 0 [.inr (3, 0), .inl q]) [] I D := by
  unfold m_rch at h
  by_cases h0 : I 5 0 2 = 0
  · rw [if_pos h0] at h
    exact And.intro (sc_vi (by decide)) (br_t h0 h)
  rw [if_neg h0] at h
  refine And.intro (sc_vi (by decide)) (br_f h0 (And.intro (sc_vi (by decide)) ?_))
  by_cases hw : m_wt I q
  · rw [if_pos hw] at h
    obtain ⟨hq, hu⟩ := hw
    refine br_f hq ?_
    rcases hu with ⟨u1, u2⟩ | ⟨u1, u2⟩
    · exact c1 _ _ _ _ (fun _ => br_f (by decide) (And.intro (sc_vi (by decide)) (br_t u2 (br_f (by decide) h)))) (fun w => absurd u1 w)
    · refine c1 _ _ _ _ (fun _ => br_f (by decide) (And.intro (sc_vi (by decide)) ?_)) (fun _ => br_t (by decide) ?_)
      · by_cases u3 : I 4 15 2 = q
        · exact br_t u3 (br_f (by decide) h)
        · exact br_f u3 (c2 _ _ _ _ (fun _ => br_f (by decide) (And.intro (sc_vi (by decide)) (br_t u2 (br_f (by decide) h)))) (fun w => absurd u1 w))
      · exact c2 _ _ _ _ (fun _ => br_f (by decide) (And.intro (sc_vi (by decide)) (br_t u2 (br_f (by decide) h)))) (fun w => absurd u1 w)
  · rw [if_neg hw] at h
    have B : ∀ n : Nat, sc_wp C K (sc_t 62) (n + 100) (sc_sf (sc_t 62) 59) [(2, .inl (I 4 13 (Int32.toNatClampNeg 2))), (0, .inr (3, 0)), (1, .inl q)] [] I D := by
      intro n
      refine br_t (by decide) ?_
      by_cases hl : I 3 0 20 - 1 ≤ 0
      · rw [if_pos hl] at h
        refine br_t hl (c3 _ _ _ hs ht ?_)
        unfold m_fin at h
        refine And.intro (sc_vi (by decide)) ?_
        by_cases hf : m_wkS (sc_u I 3 0 20 (I 3 0 20 - 1)) 4 21 2 = 0
        · refine br_t hf (And.intro (sc_vi (by decide)) ?_)
          by_cases hg : m_wkN (sc_u I 3 0 20 (I 3 0 20 - 1)) = m_wkS (sc_u I 3 0 20 (I 3 0 20 - 1)) 4 18 2
          · rw [if_neg (fun z => z.2 hg)] at h
            exact br_t hg (c4 _ _ _ h)
          · rw [if_pos ⟨hf, hg⟩] at h
            exact br_f hg (And.intro (Or.inl rfl) (And.intro (sc_vi (by decide)) (And.intro (Or.inl rfl) (And.intro (sc_vi (by decide)) (c4 _ _ _ h)))))
        · rw [if_neg (fun z => hf z.1)] at h
          exact br_f hf (c4 _ _ _ h)
      · rw [if_neg hl] at h
        exact br_f hl h
    by_cases hq : q = 0
    · exact br_t hq (B _)
    refine br_f hq ?_
    refine c1 _ _ _ _ (fun a => br_f (by decide) (And.intro (sc_vi (by decide)) (br_f (fun e => hw ⟨hq, Or.inl ⟨a, e⟩⟩) ?_))) (fun a => br_t (by decide) ?_)
    · exact c2 _ _ _ _ (fun b => br_f (by decide) (And.intro (sc_vi (by decide)) (br_f (fun e => hw ⟨hq, Or.inr ⟨b, e⟩⟩) (B _)))) (fun b => br_t (by decide) (B _))
    · exact c2 _ _ _ _ (fun b => br_f (by decide) (And.intro (sc_vi (by decide)) (br_f (fun e => hw ⟨hq, Or.inr ⟨b, e⟩⟩) (B _)))) (fun b => br_t (by decide) (B _))
theorem x_m_reach (d : Nat) : S_m_reach (sc_wpM (d + 5)) := fun I D K q hs ht h => sc_open (d := d + 4) rfl (z_m_reach (sc_wpM (d + 4)) (x_m_usesFirst (d + 2)) (x_m_usesSecond (d + 2)) (x_m_work (d + 0)) (x_m_move2 (d + 3)) I D K q hs ht h)
theorem m_vin {w : Int32} (h1 : 0 ≤ w) (h2 : w ≤ 63) : vp_in w 64 := by
  have a := Int32.le_iff_toInt_le.mp h1
  have b := Int32.le_iff_toInt_le.mp h2
  exact vp_in_iff.mpr ⟨a, Int.lt_of_le_of_lt b (by decide)⟩
def m_fk (nx : Int32) (J : sc_I) : sc_I := sc_u (sc_u (sc_u (sc_u (sc_u (sc_u (sc_u (sc_u (sc_u (sc_u J 5 0 0 1) 4 12 0 (J 3 0 21)) 4 13 0 (J 4 4 (J 3 0 21).toNatClampNeg)) 4 14 0 (J 4 5 (J 3 0 21).toNatClampNeg)) 4 15 0 (J 4 6 (J 3 0 21).toNatClampNeg)) 4 16 0 (J 4 7 (J 3 0 21).toNatClampNeg)) 4 17 0 (J 4 8 (J 3 0 21).toNatClampNeg)) 4 21 0 0) 3 0 21 nx) 4 18 0 nx
def m_fu (nx : Int32) (J : sc_I) : sc_I := sc_u (sc_u (sc_u (sc_u (sc_u (sc_u (sc_u (sc_u (sc_u (sc_u J 5 0 0 1) 4 12 0 (J 3 0 21)) 4 13 0 19) 4 14 0 0) 4 15 0 0) 4 16 0 0) 4 17 0 0) 4 21 0 1) 3 0 21 nx) 4 18 0 nx
abbrev m_gf (o : Int32) (J : sc_I) : Prop := o = 15 ∨ ((o = 13 ∨ o = 14) ∧ ¬ J 4 11 (J 3 0 21 &&& 7).toNatClampNeg ≤ 1)
def m_ftc (J : sc_I) : sc_I := if 0 ≤ J 3 0 21 ∧ J 3 0 21 ≤ 63 then (if m_gf (J 4 4 (J 3 0 21).toNatClampNeg) J then m_fk (J 3 0 21 + J 4 8 (J 3 0 21).toNatClampNeg) J else m_fk (J 3 0 21 + 1) J) else m_fu (J 3 0 21 + 1) J
abbrev S_m_fetch (C : sc_CT) : Prop := ∀ (I : sc_I) (D : sc_R) (K : sc_RT) (h : K none (m_ftc I) D), C 63 [.inr (3, 0)] I D K
set_option maxRecDepth 100000 in
set_option maxHeartbeats 4000000 in
theorem z_m_fetch (C : sc_CT) (c1 : S_m_in C) (I : sc_I) (D : sc_R) (K : sc_RT) (h : K none (m_ftc I) D) : sc_wp C K (sc_t 63) 5000 (sc_t 63) (sc_al 0 [.inr (3, 0)]) [] I D := by
  unfold m_ftc at h
  refine c1 _ _ _ _ _ _ (fun hk => ?_) (fun hk => ?_)
  · rw [if_pos hk] at h
    have hv := m_vin hk.1 hk.2
    refine And.intro (Or.inr rfl) (And.intro (sc_vi (by decide)) (And.intro (sc_vi (by decide)) (br_f (by decide) (And.intro hv (And.intro (sc_vi (by decide)) (br_f (by decide) (And.intro hv (And.intro (sc_vi (by decide)) (br_f (by decide) (And.intro hv (And.intro (sc_vi (by decide)) (br_f (by decide) (And.intro hv (And.intro (sc_vi (by decide)) (br_f (by decide) (And.intro hv (And.intro (sc_vi (by decide)) (br_f (by decide) (And.intro (sc_vi (by decide)) (And.intro (sc_vi (by decide)) (?_)))))))))))))))))))))
    by_cases hg : m_gf (I 4 4 (I 3 0 21).toNatClampNeg) I
    · rw [if_pos hg] at h
      by_cases g1 : I 4 4 (I 3 0 21).toNatClampNeg = 15
      · exact br_t g1 (br_f (by decide) (And.intro (sc_vi (by decide)) (And.intro (sc_vi (by decide)) (h))))
      · obtain ⟨g2, g4⟩ := hg.resolve_left g1
        by_cases g3 : I 4 4 (I 3 0 21).toNatClampNeg = 13
        · exact br_f g1 (br_t g3 (And.intro (m_and7 _) (br_f g4 (br_f (by decide) (And.intro (sc_vi (by decide)) (And.intro (sc_vi (by decide)) (h)))))))
        · have g5 := g2.resolve_left g3
          exact br_f g1 (br_f g3 (br_t g5 (And.intro (m_and7 _) (br_f g4 (br_f (by decide) (And.intro (sc_vi (by decide)) (And.intro (sc_vi (by decide)) (h))))))))
    · rw [if_neg hg] at h
      have g1 : ¬ I 4 4 (I 3 0 21).toNatClampNeg = 15 := fun e => hg (Or.inl e)
      by_cases g3 : I 4 4 (I 3 0 21).toNatClampNeg = 13
      · have g4 : I 4 11 (I 3 0 21 &&& 7).toNatClampNeg ≤ 1 := Classical.byContradiction (fun z => hg (Or.inr ⟨Or.inl g3, z⟩))
        exact br_f g1 (br_t g3 (And.intro (m_and7 _) (br_t g4 (br_t (by decide) (And.intro (sc_vi (by decide)) (h))))))
      · by_cases g5 : I 4 4 (I 3 0 21).toNatClampNeg = 14
        · have g4 : I 4 11 (I 3 0 21 &&& 7).toNatClampNeg ≤ 1 := Classical.byContradiction (fun z => hg (Or.inr ⟨Or.inr g5, z⟩))
          exact br_f g1 (br_f g3 (br_t g5 (And.intro (m_and7 _) (br_t g4 (br_t (by decide) (And.intro (sc_vi (by decide)) (h)))))))
        · exact br_f g1 (br_f g3 (br_f g5 (br_t (by decide) (And.intro (sc_vi (by decide)) (h)))))
  · rw [if_neg hk] at h
    have g1 : ¬ (19 : Int32) = 15 := by decide
    have g3 : ¬ (19 : Int32) = 13 := by decide
    have g5 : ¬ (19 : Int32) = 14 := by decide
    exact And.intro (Or.inr rfl) (And.intro (sc_vi (by decide)) (And.intro (sc_vi (by decide)) (br_t (by decide) (And.intro (sc_vi (by decide)) (br_t (by decide) (And.intro (sc_vi (by decide)) (br_t (by decide) (And.intro (sc_vi (by decide)) (br_t (by decide) (And.intro (sc_vi (by decide)) (br_t (by decide) (And.intro (sc_vi (by decide)) (br_t (by decide) (And.intro (sc_vi (by decide)) (And.intro (sc_vi (by decide)) (br_f g1 (br_f g3 (br_f g5 (br_t (by decide) (And.intro (sc_vi (by decide)) (h)))))))))))))))))))))
theorem x_m_fetch (d : Nat) : S_m_fetch (sc_wpM (d + 2)) := fun I D K h => sc_open (d := d + 1) rfl (z_m_fetch (sc_wpM (d + 1)) (x_m_in (d + 0)) I D K h)
end
section
def m_ldd (J : sc_I) : Int32 := if ¬ J 5 0 3 = 0 ∧ J 4 13 3 = 11 ∧ J 4 21 3 = 0 then J 4 14 3 else 0
def m_mv1 (J : sc_I) : sc_I := if J 5 0 2 = 0 ∧ ¬ J 5 0 1 = 0 then sc_u (m_move 1 J) 3 0 20 (sc_wc (J 4 13 1)) else J
def m_mv0 (J : sc_I) : sc_I := if J 5 0 1 = 0 ∧ ¬ J 5 0 0 = 0 then m_move 0 J else J
def m_ft0 (J : sc_I) : sc_I := if J 5 0 0 = 0 then m_ftc J else J
def m_tick (J : sc_I) : sc_I := sc_u J 3 0 26 (J 3 0 26 + 1)
def m_cyc (J : sc_I) : sc_I := if m_end (m_tick J) then m_lv (m_tick J) else m_ft0 (m_mv0 (m_mv1 (m_rch (m_ldd (m_tick J)) (m_rem (m_lv (m_tick J))))))
/-- what a cycle of the reference needs of its state -/
def m_ok (J : sc_I) : Prop := vp_in (J 4 14 4) 16 ∧ (∀ J', (J' = m_rem (m_lv (m_tick J))) → vp_in (J' 4 15 2) 16 ∧ vp_in (J' 4 16 2) 16) ∧ (∀ J', (J' = m_lv (m_tick J)) → ¬ J' 5 0 3 = 0 → J' 4 21 3 = 0 → (J' 4 13 3 = 11 ∨ J' 4 13 3 = 12) → vp_in (J' 4 20 3) 32)
abbrev S_m_cycle (C : sc_CT) : Prop := ∀ (I : sc_I) (D : sc_R) (K : sc_RT) (ho : m_ok I) (h : K none (m_cyc I) D), C 64 [.inr (3, 0)] I D K
set_option maxRecDepth 100000 in
set_option maxHeartbeats 4000000 in
theorem z_m_cycle (C : sc_CT) (c1 : S_m_leave C) (c2 : S_m_remember C) (c3 : S_m_reach C) (c4 : S_m_move1 C) (c5 : S_m_move0 C) (c6 : S_m_fetch C) (I : sc_I) (D : sc_R) (K : sc_RT) (ho : m_ok I) (h : K none (m_cyc I) D) : sc_wp C K (sc_t 64) 5000 (sc_t 64) (sc_al 0 [.inr (3, 0)]) [] I D := by
  obtain ⟨o1, o2, o3⟩ := ho
  have TL : ∀ (n : Nat) (q : Int32), q = m_ldd (m_tick I) → sc_wp C K (sc_t 64) (n + 200) (sc_sf (sc_t 64) 50) [(1, .inl q), (0, .inr (3, 0))] [] (m_tick I) D := by
    intro n q hq
    subst hq
    unfold m_cyc at h
    refine c1 _ _ _ o1 (fun a => br_f (by decide) ?_) (fun a => br_t (by decide) ?_)
    · rw [if_pos a] at h
      exact h
    rw [if_neg a] at h
    refine c2 _ _ _ (o3 _ rfl) (c3 _ _ _ _ (o2 _ rfl).1 (o2 _ rfl).2 ?_)
    generalize m_rch (m_ldd (m_tick I)) (m_rem (m_lv (m_tick I))) = J at h
    have T0 : ∀ (n : Nat) (J : sc_I), K none (m_ft0 J) D → sc_wp C K (sc_t 64) (n + 40) (sc_sf (sc_t 64) 149) [(1, .inl (m_ldd (m_tick I))), (0, .inr (3, 0))] [] J D := by
      intro n J h
      unfold m_ft0 at h
      refine And.intro (sc_vi (by decide)) ?_
      by_cases b : J 5 0 0 = 0
      · rw [if_pos b] at h
        exact br_t b (c6 _ _ _ h)
      · rw [if_neg b] at h
        exact br_f b h
    have T1 : ∀ (n : Nat) (J : sc_I), K none (m_ft0 (m_mv0 J)) D → sc_wp C K (sc_t 64) (n + 80) (sc_sf (sc_t 64) 126) [(1, .inl (m_ldd (m_tick I))), (0, .inr (3, 0))] [] J D := by
      intro n J h
      unfold m_mv0 at h
      refine And.intro (sc_vi (by decide)) ?_
      by_cases b : J 5 0 1 = 0
      · refine br_t b (And.intro (sc_vi (by decide)) ?_)
        by_cases b2 : J 5 0 0 = 0
        · rw [if_neg (fun z => z.2 b2)] at h
          exact br_t b2 (T0 _ _ h)
        · rw [if_pos ⟨b, b2⟩] at h
          exact br_f b2 (c5 _ _ _ (T0 _ _ h))
      · rw [if_neg (fun z => b z.1)] at h
        exact br_f b (T0 _ _ h)
    unfold m_mv1 at h
    refine And.intro (sc_vi (by decide)) ?_
    by_cases b : J 5 0 2 = 0
    · refine br_t b (And.intro (sc_vi (by decide)) ?_)
      by_cases b2 : J 5 0 1 = 0
      · rw [if_neg (fun z => z.2 b2)] at h
        exact br_t b2 (T1 _ _ h)
      · rw [if_pos ⟨b, b2⟩] at h
        refine br_f b2 (c4 _ _ _ (And.intro (sc_vi (by decide)) ?_))
        unfold sc_wc at h
        by_cases e7 : J 4 13 1 = 7
        · rw [if_pos e7] at h
          exact br_t e7 (T1 _ _ h)
        · rw [if_neg e7] at h
          refine br_f e7 (And.intro (sc_vi (by decide)) ?_)
          by_cases e8 : J 4 13 1 = 8
          · rw [if_pos e8] at h
            exact br_t e8 (T1 _ _ h)
          · rw [if_neg e8] at h
            exact br_f e8 (T1 _ _ h)
    · rw [if_neg (fun z => b z.1)] at h
      exact br_f b (T1 _ _ h)
  refine And.intro (sc_vi (by decide)) ?_
  by_cases b1 : I 5 0 3 = 0
  · exact br_t b1 (TL _ _ (by unfold m_ldd; rw [if_neg (fun z => z.1 b1)]))
  refine br_f b1 (And.intro (sc_vi (by decide)) ?_)
  by_cases b2 : I 4 13 3 = 11
  · refine br_t b2 (And.intro (sc_vi (by decide)) ?_)
    by_cases b3 : I 4 21 3 = 0
    · exact br_t b3 (And.intro (sc_vi (by decide)) (TL _ _ (by unfold m_ldd; rw [if_pos ⟨b1, b2, b3⟩]; rfl)))
    · exact br_f b3 (TL _ _ (by unfold m_ldd; rw [if_neg (fun z => b3 z.2.2)]))
  · exact br_f b2 (TL _ _ (by unfold m_ldd; rw [if_neg (fun z => b2 z.2.1)]))
theorem x_m_cycle (d : Nat) : S_m_cycle (sc_wpM (d + 6)) := fun I D K ho h => sc_open (d := d + 5) rfl (z_m_cycle (sc_wpM (d + 5)) (x_m_leave (d + 2)) (x_m_remember (d + 3)) (x_m_reach (d + 0)) (x_m_move1 (d + 4)) (x_m_move0 (d + 4)) (x_m_fetch (d + 3)) I D K ho h)
/-- so many cycles, from a state that has not halted; all states on the way are fit -/
def m_run : Nat → sc_I → sc_I
  | 0, J => J
  | n + 1, J => if J 3 0 25 = 0 then m_run n (m_cyc J) else J
def m_oks : Nat → sc_I → Prop
  | 0, _ => True
  | n + 1, J => J 3 0 25 = 0 → m_ok J ∧ m_oks n (m_cyc J)
abbrev S_m_cycles (C : sc_CT) : Prop := ∀ (I : sc_I) (D : sc_R) (K : sc_RT) (n : Int32) (h1 : (1 ≤ n ∧ n ≤ 300) → m_oks n.toNatClampNeg (sc_u I 3 0 0 0) ∧ K (some (.inl (m_run n.toNatClampNeg (sc_u I 3 0 0 0) 3 0 27 - I 3 0 27))) (m_run n.toNatClampNeg (sc_u I 3 0 0 0)) D) (h2 : ¬ (1 ≤ n ∧ n ≤ 300) → K (some (.inl 0)) (sc_u I 3 0 0 1) D), C 65 [.inr (3, 0), .inl n] I D K
set_option maxRecDepth 100000 in
set_option maxHeartbeats 4000000 in
theorem z_m_cycles (C : sc_CT) (c1 : S_m_out C) (c2 : S_m_cycle C) (I : sc_I) (D : sc_R) (K : sc_RT) (n : Int32) (h1 : (1 ≤ n ∧ n ≤ 300) → m_oks n.toNatClampNeg (sc_u I 3 0 0 0) ∧ K (some (.inl (m_run n.toNatClampNeg (sc_u I 3 0 0 0) 3 0 27 - I 3 0 27))) (m_run n.toNatClampNeg (sc_u I 3 0 0 0)) D) (h2 : ¬ (1 ≤ n ∧ n ≤ 300) → K (some (.inl 0)) (sc_u I 3 0 0 1) D) : sc_wp C K (sc_t 65) 5000 (sc_t 65) (sc_al 0 [.inr (3, 0), .inl n]) [] I D := by
  refine c1 _ _ _ _ _ _ (fun a => br_t (by decide) ?_) (fun a => br_f (by decide) (h2 a))
  obtain ⟨ho, h⟩ := h1 a
  have hn : n.toInt = (n.toNatClampNeg : Int) ∧ n.toNatClampNeg ≤ 300 := by
    have e1 := Int32.le_iff_toInt_le.mp a.1
    have e2 := Int32.le_iff_toInt_le.mp a.2
    rw [show (1 : Int32).toInt = 1 from rfl] at e1
    rw [show (300 : Int32).toInt = 300 from rfl] at e2
    have e3 : n.toNatClampNeg = n.toInt.toNat := rfl
    omega
  have L : ∀ (j : Nat) (f : Nat) (i : Nat) (x : Int32) (J : sc_I), 14 * j + 10 ≤ f → x = nI i → i + j = n.toNatClampNeg → m_oks j J → K (some (.inl (m_run j J 3 0 27 - sc_u I 3 0 0 0 3 0 27))) (m_run j J) D → sc_wp C K (sc_t 65) f (sc_sf (sc_t 65) 21) [(3, .inl x), (2, .inl (sc_u I 3 0 0 0 3 0 27)), (0, .inr (3, 0)), (1, .inl n)] [] J D := by
    intro j
    induction j with
    | zero =>
      intro f i x J hf hx hi _ h
      obtain ⟨f, rfl⟩ : ∃ f', f = f' + 10 := ⟨f - 10, by omega⟩
      have : n ≤ x := by
        rw [hx, Int32.le_iff_toInt_le, nI_toInt (by omega)]; omega
      exact br_t this h
    | succ j ih =>
      intro f i x J hf hx hi ho h
      have hlt : ¬ n ≤ x := by
        rw [hx, Int32.le_iff_toInt_le, nI_toInt (by omega)]; omega
      unfold m_run at h
      by_cases b : J 3 0 25 = 0
      · obtain ⟨f, rfl⟩ : ∃ f', f = f' + 10 := ⟨f - 10, by omega⟩
        rw [if_pos b] at h
        refine br_f hlt (br_t b (c2 _ _ _ (ho b).1 ?_))
        exact ih f (i + 1) (x + 1) (m_cyc J) (by omega) (by rw [hx, nI_1]) (by omega) (ho b).2 h
      · obtain ⟨f, rfl⟩ : ∃ f', f = f' + 12 := ⟨f - 12, by omega⟩
        rw [if_neg b] at h
        exact br_f hlt (br_f b h)
  exact L n.toNatClampNeg 4989 0 0 _ (by omega) rfl (by omega) ho h
theorem x_m_cycles (d : Nat) : S_m_cycles (sc_wpM (d + 7)) := fun I D K n h1 h2 => sc_open (d := d + 6) rfl (z_m_cycles (sc_wpM (d + 6)) (x_m_out (d + 5)) (x_m_cycle (d + 0)) I D K n h1 h2)
end
section
theorem m_vr {w lo hi : Int32} {N : Nat} (h : lo ≤ w ∧ w ≤ hi) (h0 : 0 ≤ lo.toInt) (h1 : hi.toInt < (N : Int)) : vp_in w N := by
  have a := Int32.le_iff_toInt_le.mp h.1
  have b := Int32.le_iff_toInt_le.mp h.2
  exact vp_in_iff.mpr ⟨by omega, by omega⟩
abbrev m_pok (o d s t n : Int32) : Prop := (0 ≤ o ∧ o ≤ 19) ∧ (0 ≤ d ∧ d ≤ 15) ∧ (0 ≤ s ∧ s ≤ 15) ∧ (0 ≤ t ∧ t ≤ 15) ∧ (-64 ≤ n ∧ n ≤ 63)
def m_pt (p o d s t n : Int32) (J : sc_I) : sc_I := sc_u (sc_u (sc_u (sc_u (sc_u J 4 4 p.toNatClampNeg o) 4 5 p.toNatClampNeg d) 4 6 p.toNatClampNeg s) 4 7 p.toNatClampNeg t) 4 8 p.toNatClampNeg n
abbrev S_m_put (C : sc_CT) : Prop := ∀ (I : sc_I) (D : sc_R) (K : sc_RT) (p o dd s t n : Int32) (h1 : ¬ (0 ≤ p ∧ p ≤ 63) → K none (sc_u I 3 0 0 1) D) (h2 : (0 ≤ p ∧ p ≤ 63) → ¬ m_pok o dd s t n → K none (sc_u (sc_u I 3 0 0 0) 3 0 0 2) D) (h3 : (0 ≤ p ∧ p ≤ 63) → m_pok o dd s t n → K none (m_pt p o dd s t n (sc_u I 3 0 0 0)) D), C 45 [.inr (3, 0), .inl p, .inl o, .inl dd, .inl s, .inl t, .inl n] I D K
set_option maxRecDepth 100000 in
set_option maxHeartbeats 4000000 in
theorem z_m_put (C : sc_CT) (c1 : S_m_out C) (c2 : S_m_in C) (I : sc_I) (D : sc_R) (K : sc_RT) (p o dd s t n : Int32) (h1 : ¬ (0 ≤ p ∧ p ≤ 63) → K none (sc_u I 3 0 0 1) D) (h2 : (0 ≤ p ∧ p ≤ 63) → ¬ m_pok o dd s t n → K none (sc_u (sc_u I 3 0 0 0) 3 0 0 2) D) (h3 : (0 ≤ p ∧ p ≤ 63) → m_pok o dd s t n → K none (m_pt p o dd s t n (sc_u I 3 0 0 0)) D) : sc_wp C K (sc_t 45) 5000 (sc_t 45) (sc_al 0 [.inr (3, 0), .inl p, .inl o, .inl dd, .inl s, .inl t, .inl n]) [] I D := by
  refine c1 _ _ _ _ _ _ (fun a => br_t (by decide) ?_) (fun a => br_f (by decide) (h1 a))
  have hv : vp_in p 64 := m_vr a (by decide) (by decide)
  refine c2 _ _ _ _ _ _ (fun b1 => br_f (by decide) ?_) (fun b1 => br_t (by decide) (h2 a (fun z => b1 z.1)))
  refine c2 _ _ _ _ _ _ (fun b2 => br_f (by decide) ?_) (fun b2 => br_t (by decide) (h2 a (fun z => b2 z.2.1)))
  refine c2 _ _ _ _ _ _ (fun b3 => br_f (by decide) ?_) (fun b3 => br_t (by decide) (h2 a (fun z => b3 z.2.2.1)))
  refine c2 _ _ _ _ _ _ (fun b4 => br_f (by decide) ?_) (fun b4 => br_t (by decide) (h2 a (fun z => b4 z.2.2.2.1)))
  refine c2 _ _ _ _ _ _ (fun b5 => br_f (by decide) ?_) (fun b5 => br_t (by decide) (h2 a (fun z => b5 z.2.2.2.2)))
  exact And.intro hv (And.intro hv (And.intro hv (And.intro hv (And.intro hv (h3 a ⟨b1, b2, b3, b4, b5⟩)))))
theorem x_m_put (d : Nat) : S_m_put (sc_wpM (d + 2)) := fun I D K p o dd s t n h1 h2 h3 => sc_open (d := d + 1) rfl (z_m_put (sc_wpM (d + 1)) (x_m_out (d + 0)) (x_m_in (d + 0)) I D K p o dd s t n h1 h2 h3)
abbrev S_m_poke (C : sc_CT) : Prop := ∀ (I : sc_I) (D : sc_R) (K : sc_RT) (w v : Int32) (h1 : (0 ≤ w ∧ w ≤ 31) → K (some (.inl (I 4 9 w.toNatClampNeg))) (sc_u (sc_u I 3 0 0 0) 4 9 w.toNatClampNeg v) D) (h2 : ¬ (0 ≤ w ∧ w ≤ 31) → K (some (.inl 0)) (sc_u I 3 0 0 1) D), C 46 [.inr (3, 0), .inl w, .inl v] I D K
theorem z_m_poke (C : sc_CT) (c1 : S_m_out C) (I : sc_I) (D : sc_R) (K : sc_RT) (w v : Int32) (h1 : (0 ≤ w ∧ w ≤ 31) → K (some (.inl (I 4 9 w.toNatClampNeg))) (sc_u (sc_u I 3 0 0 0) 4 9 w.toNatClampNeg v) D) (h2 : ¬ (0 ≤ w ∧ w ≤ 31) → K (some (.inl 0)) (sc_u I 3 0 0 1) D) : sc_wp C K (sc_t 46) 5000 (sc_t 46) (sc_al 0 [.inr (3, 0), .inl w, .inl v]) [] I D := by
  refine c1 _ _ _ _ _ _ (fun a => br_t (by decide) ?_) (fun a => br_f (by decide) (h2 a))
  have hv : vp_in w 32 := m_vr a (by decide) (by decide)
  exact And.intro hv (And.intro hv (h1 a))
theorem x_m_poke (d : Nat) : S_m_poke (sc_wpM (d + 2)) := fun I D K w v h1 h2 => sc_open (d := d + 1) rfl (z_m_poke (sc_wpM (d + 1)) (x_m_out (d + 0)) I D K w v h1 h2)
abbrev S_m_peek (C : sc_CT) : Prop := ∀ (I : sc_I) (D : sc_R) (K : sc_RT) (w : Int32) (h1 : (0 ≤ w ∧ w ≤ 31) → K (some (.inl (I 4 9 w.toNatClampNeg))) (sc_u I 3 0 0 0) D) (h2 : ¬ (0 ≤ w ∧ w ≤ 31) → K (some (.inl 0)) (sc_u I 3 0 0 1) D), C 47 [.inr (3, 0), .inl w] I D K
theorem z_m_peek (C : sc_CT) (c1 : S_m_out C) (I : sc_I) (D : sc_R) (K : sc_RT) (w : Int32) (h1 : (0 ≤ w ∧ w ≤ 31) → K (some (.inl (I 4 9 w.toNatClampNeg))) (sc_u I 3 0 0 0) D) (h2 : ¬ (0 ≤ w ∧ w ≤ 31) → K (some (.inl 0)) (sc_u I 3 0 0 1) D) : sc_wp C K (sc_t 47) 5000 (sc_t 47) (sc_al 0 [.inr (3, 0), .inl w]) [] I D := by
  refine c1 _ _ _ _ _ _ (fun a => br_t (by decide) ?_) (fun a => br_f (by decide) (h2 a))
  have hv : vp_in w 32 := m_vr a (by decide) (by decide)
  exact And.intro hv (h1 a)
theorem x_m_peek (d : Nat) : S_m_peek (sc_wpM (d + 2)) := fun I D K w h1 h2 => sc_open (d := d + 1) rfl (z_m_peek (sc_wpM (d + 1)) (x_m_out (d + 0)) I D K w h1 h2)
abbrev S_m_set (C : sc_CT) : Prop := ∀ (I : sc_I) (D : sc_R) (K : sc_RT) (w v : Int32) (h1 : (1 ≤ w ∧ w ≤ 15) → K (some (.inl (I 4 10 w.toNatClampNeg))) (sc_u (sc_u I 3 0 0 0) 4 10 w.toNatClampNeg v) D) (h2 : ¬ (1 ≤ w ∧ w ≤ 15) → K (some (.inl 0)) (sc_u I 3 0 0 1) D), C 48 [.inr (3, 0), .inl w, .inl v] I D K
theorem z_m_set (C : sc_CT) (c1 : S_m_out C) (I : sc_I) (D : sc_R) (K : sc_RT) (w v : Int32) (h1 : (1 ≤ w ∧ w ≤ 15) → K (some (.inl (I 4 10 w.toNatClampNeg))) (sc_u (sc_u I 3 0 0 0) 4 10 w.toNatClampNeg v) D) (h2 : ¬ (1 ≤ w ∧ w ≤ 15) → K (some (.inl 0)) (sc_u I 3 0 0 1) D) : sc_wp C K (sc_t 48) 5000 (sc_t 48) (sc_al 0 [.inr (3, 0), .inl w, .inl v]) [] I D := by
  refine c1 _ _ _ _ _ _ (fun a => br_t (by decide) ?_) (fun a => br_f (by decide) (h2 a))
  have hv : vp_in w 16 := m_vr a (by decide) (by decide)
  exact And.intro hv (And.intro hv (h1 a))
theorem x_m_set (d : Nat) : S_m_set (sc_wpM (d + 2)) := fun I D K w v h1 h2 => sc_open (d := d + 1) rfl (z_m_set (sc_wpM (d + 1)) (x_m_out (d + 0)) I D K w v h1 h2)
abbrev S_m_register (C : sc_CT) : Prop := ∀ (I : sc_I) (D : sc_R) (K : sc_RT) (w : Int32) (h1 : (0 ≤ w ∧ w ≤ 15) → K (some (.inl (I 4 10 w.toNatClampNeg))) (sc_u I 3 0 0 0) D) (h2 : ¬ (0 ≤ w ∧ w ≤ 15) → K (some (.inl 0)) (sc_u I 3 0 0 1) D), C 49 [.inr (3, 0), .inl w] I D K
theorem z_m_register (C : sc_CT) (c1 : S_m_out C) (I : sc_I) (D : sc_R) (K : sc_RT) (w : Int32) (h1 : (0 ≤ w ∧ w ≤ 15) → K (some (.inl (I 4 10 w.toNatClampNeg))) (sc_u I 3 0 0 0) D) (h2 : ¬ (0 ≤ w ∧ w ≤ 15) → K (some (.inl 0)) (sc_u I 3 0 0 1) D) : sc_wp C K (sc_t 49) 5000 (sc_t 49) (sc_al 0 [.inr (3, 0), .inl w]) [] I D := by
  refine c1 _ _ _ _ _ _ (fun a => br_t (by decide) ?_) (fun a => br_f (by decide) (h2 a))
  have hv : vp_in w 16 := m_vr a (by decide) (by decide)
  exact And.intro hv (h1 a)
theorem x_m_register (d : Nat) : S_m_register (sc_wpM (d + 2)) := fun I D K w h1 h2 => sc_open (d := d + 1) rfl (z_m_register (sc_wpM (d + 1)) (x_m_out (d + 0)) I D K w h1 h2)
abbrev S_m_start (C : sc_CT) : Prop := ∀ (I : sc_I) (D : sc_R) (K : sc_RT) (w : Int32) (h1 : (0 ≤ w ∧ w ≤ 63) → K none (sc_u (sc_u (m_emp (sc_u I 3 0 0 0)) 3 0 21 w) 3 0 25 0) D) (h2 : ¬ (0 ≤ w ∧ w ≤ 63) → K none (sc_u I 3 0 0 1) D), C 51 [.inr (3, 0), .inl w] I D K
theorem z_m_start (C : sc_CT) (c1 : S_m_out C) (c2 : S_m_empty C) (I : sc_I) (D : sc_R) (K : sc_RT) (w : Int32) (h1 : (0 ≤ w ∧ w ≤ 63) → K none (sc_u (sc_u (m_emp (sc_u I 3 0 0 0)) 3 0 21 w) 3 0 25 0) D) (h2 : ¬ (0 ≤ w ∧ w ≤ 63) → K none (sc_u I 3 0 0 1) D) : sc_wp C K (sc_t 51) 5000 (sc_t 51) (sc_al 0 [.inr (3, 0), .inl w]) [] I D := by
  refine c1 _ _ _ _ _ _ (fun a => br_t (by decide) ?_) (fun a => br_f (by decide) (h2 a))
  exact c2 _ _ _ (And.intro (Or.inl rfl) (h1 a))
theorem x_m_start (d : Nat) : S_m_start (sc_wpM (d + 2)) := fun I D K w h1 h2 => sc_open (d := d + 1) rfl (z_m_start (sc_wpM (d + 1)) (x_m_out (d + 0)) (x_m_empty (d + 0)) I D K w h1 h2)
abbrev S_m_handler (C : sc_CT) : Prop := ∀ (I : sc_I) (D : sc_R) (K : sc_RT) (w : Int32) (h1 : (0 ≤ w ∧ w ≤ 63) → K (some (.inl (I 3 0 22))) (sc_u (sc_u I 3 0 0 0) 3 0 22 w) D) (h2 : ¬ (0 ≤ w ∧ w ≤ 63) → K (some (.inl 0)) (sc_u I 3 0 0 1) D), C 52 [.inr (3, 0), .inl w] I D K
theorem z_m_handler (C : sc_CT) (c1 : S_m_out C) (I : sc_I) (D : sc_R) (K : sc_RT) (w : Int32) (h1 : (0 ≤ w ∧ w ≤ 63) → K (some (.inl (I 3 0 22))) (sc_u (sc_u I 3 0 0 0) 3 0 22 w) D) (h2 : ¬ (0 ≤ w ∧ w ≤ 63) → K (some (.inl 0)) (sc_u I 3 0 0 1) D) : sc_wp C K (sc_t 52) 5000 (sc_t 52) (sc_al 0 [.inr (3, 0), .inl w]) [] I D := by
  exact c1 _ _ _ _ _ _ (fun a => br_t (by decide) (h1 a)) (fun a => br_f (by decide) (h2 a))
theorem x_m_handler (d : Nat) : S_m_handler (sc_wpM (d + 2)) := fun I D K w h1 h2 => sc_open (d := d + 1) rfl (z_m_handler (sc_wpM (d + 1)) (x_m_out (d + 0)) I D K w h1 h2)
abbrev S_m_stage (C : sc_CT) : Prop := ∀ (I : sc_I) (D : sc_R) (K : sc_RT) (w : Int32) (h1 : (0 ≤ w ∧ w ≤ 4) → ¬ I 5 0 w.toNatClampNeg = 0 → K (some (.inl (I 4 12 w.toNatClampNeg))) (sc_u I 3 0 0 0) D) (h3 : (0 ≤ w ∧ w ≤ 4) → I 5 0 w.toNatClampNeg = 0 → K (some (.inl (-1))) (sc_u I 3 0 0 0) D) (h2 : ¬ (0 ≤ w ∧ w ≤ 4) → K (some (.inl 0)) (sc_u I 3 0 0 1) D), C 66 [.inr (3, 0), .inl w] I D K
theorem z_m_stage (C : sc_CT) (c1 : S_m_out C) (I : sc_I) (D : sc_R) (K : sc_RT) (w : Int32) (h1 : (0 ≤ w ∧ w ≤ 4) → ¬ I 5 0 w.toNatClampNeg = 0 → K (some (.inl (I 4 12 w.toNatClampNeg))) (sc_u I 3 0 0 0) D) (h3 : (0 ≤ w ∧ w ≤ 4) → I 5 0 w.toNatClampNeg = 0 → K (some (.inl (-1))) (sc_u I 3 0 0 0) D) (h2 : ¬ (0 ≤ w ∧ w ≤ 4) → K (some (.inl 0)) (sc_u I 3 0 0 1) D) : sc_wp C K (sc_t 66) 5000 (sc_t 66) (sc_al 0 [.inr (3, 0), .inl w]) [] I D := by
  refine c1 _ _ _ _ _ _ (fun a => br_t (by decide) ?_) (fun a => br_f (by decide) (h2 a))
  have hv : vp_in w 5 := m_vr a (by decide) (by decide)
  exact And.intro hv (And.intro (fun b => h3 a b) (fun b => And.intro hv (h1 a b)))
theorem x_m_stage (d : Nat) : S_m_stage (sc_wpM (d + 2)) := fun I D K w h1 h3 h2 => sc_open (d := d + 1) rfl (z_m_stage (sc_wpM (d + 1)) (x_m_out (d + 0)) I D K w h1 h3 h2)
abbrev S_m_counter (C : sc_CT) : Prop := ∀ (I : sc_I) (D : sc_R) (K : sc_RT) (w : Int32) (h1 : (0 ≤ w ∧ w ≤ 7) → K (some (.inl (I 4 11 w.toNatClampNeg))) (sc_u I 3 0 0 0) D) (h2 : ¬ (0 ≤ w ∧ w ≤ 7) → K (some (.inl 0)) (sc_u I 3 0 0 1) D), C 67 [.inr (3, 0), .inl w] I D K
theorem z_m_counter (C : sc_CT) (c1 : S_m_out C) (I : sc_I) (D : sc_R) (K : sc_RT) (w : Int32) (h1 : (0 ≤ w ∧ w ≤ 7) → K (some (.inl (I 4 11 w.toNatClampNeg))) (sc_u I 3 0 0 0) D) (h2 : ¬ (0 ≤ w ∧ w ≤ 7) → K (some (.inl 0)) (sc_u I 3 0 0 1) D) : sc_wp C K (sc_t 67) 5000 (sc_t 67) (sc_al 0 [.inr (3, 0), .inl w]) [] I D := by
  refine c1 _ _ _ _ _ _ (fun a => br_t (by decide) ?_) (fun a => br_f (by decide) (h2 a))
  have hv : vp_in w 8 := m_vr a (by decide) (by decide)
  exact And.intro hv (h1 a)
theorem x_m_counter (d : Nat) : S_m_counter (sc_wpM (d + 2)) := fun I D K w h1 h2 => sc_open (d := d + 1) rfl (z_m_counter (sc_wpM (d + 1)) (x_m_out (d + 0)) I D K w h1 h2)
abbrev S_m_retired (C : sc_CT) : Prop := ∀ (I : sc_I) (D : sc_R) (K : sc_RT) (w : Int32) (hk : (0 ≤ w ∧ w ≤ I 3 0 31 - 1) → vp_in w 16) (h1 : (0 ≤ w ∧ w ≤ I 3 0 31 - 1) → K (some (.inl (I 4 22 w.toNatClampNeg))) (sc_u I 3 0 0 0) D) (h2 : ¬ (0 ≤ w ∧ w ≤ I 3 0 31 - 1) → K (some (.inl 0)) (sc_u I 3 0 0 1) D), C 68 [.inr (3, 0), .inl w] I D K
theorem z_m_retired (C : sc_CT) (c1 : S_m_out C) (I : sc_I) (D : sc_R) (K : sc_RT) (w : Int32) (hk : (0 ≤ w ∧ w ≤ I 3 0 31 - 1) → vp_in w 16) (h1 : (0 ≤ w ∧ w ≤ I 3 0 31 - 1) → K (some (.inl (I 4 22 w.toNatClampNeg))) (sc_u I 3 0 0 0) D) (h2 : ¬ (0 ≤ w ∧ w ≤ I 3 0 31 - 1) → K (some (.inl 0)) (sc_u I 3 0 0 1) D) : sc_wp C K (sc_t 68) 5000 (sc_t 68) (sc_al 0 [.inr (3, 0), .inl w]) [] I D := by
  exact c1 _ _ _ _ _ _ (fun a => br_t (by decide) (And.intro (hk a) (h1 a))) (fun a => br_f (by decide) (h2 a))
theorem x_m_retired (d : Nat) : S_m_retired (sc_wpM (d + 2)) := fun I D K w hk h1 h2 => sc_open (d := d + 1) rfl (z_m_retired (sc_wpM (d + 1)) (x_m_out (d + 0)) I D K w hk h1 h2)
def m_cnt (w : Int32) (J : sc_I) : Int32 := if w = 0 then J 3 0 26 else if w = 1 then J 3 0 27 else if w = 2 then J 3 0 28 else if w = 3 then J 3 0 29 else if w = 4 then J 3 0 30 else if w = 5 then J 3 0 21 else if w = 6 then J 3 0 23 else if w = 7 then J 3 0 24 else if J 3 0 25 = 0 then 0 else 1
abbrev S_m_count (C : sc_CT) : Prop := ∀ (I : sc_I) (D : sc_R) (K : sc_RT) (w : Int32) (h1 : (0 ≤ w ∧ w ≤ 8) → K (some (.inl (m_cnt w I))) (sc_u I 3 0 0 0) D) (h2 : ¬ (0 ≤ w ∧ w ≤ 8) → K (some (.inl 0)) (sc_u I 3 0 0 1) D), C 69 [.inr (3, 0), .inl w] I D K
theorem z_m_count (C : sc_CT) (c1 : S_m_out C) (I : sc_I) (D : sc_R) (K : sc_RT) (w : Int32) (h1 : (0 ≤ w ∧ w ≤ 8) → K (some (.inl (m_cnt w I))) (sc_u I 3 0 0 0) D) (h2 : ¬ (0 ≤ w ∧ w ≤ 8) → K (some (.inl 0)) (sc_u I 3 0 0 1) D) : sc_wp C K (sc_t 69) 5000 (sc_t 69) (sc_al 0 [.inr (3, 0), .inl w]) [] I D := by
  refine c1 _ _ _ _ _ _ (fun a => br_t (by decide) ?_) (fun a => br_f (by decide) (h2 a))
  have h := h1 a
  unfold m_cnt at h
  refine And.intro (fun z => ?_) (fun z => ?_)
  · rw [if_pos z] at h; exact h
  rw [if_neg z] at h
  refine And.intro (fun z => ?_) (fun z => ?_)
  · rw [if_pos z] at h; exact h
  rw [if_neg z] at h
  refine And.intro (fun z => ?_) (fun z => ?_)
  · rw [if_pos z] at h; exact h
  rw [if_neg z] at h
  refine And.intro (fun z => ?_) (fun z => ?_)
  · rw [if_pos z] at h; exact h
  rw [if_neg z] at h
  refine And.intro (fun z => ?_) (fun z => ?_)
  · rw [if_pos z] at h; exact h
  rw [if_neg z] at h
  refine And.intro (fun z => ?_) (fun z => ?_)
  · rw [if_pos z] at h; exact h
  rw [if_neg z] at h
  refine And.intro (fun z => ?_) (fun z => ?_)
  · rw [if_pos z] at h; exact h
  rw [if_neg z] at h
  refine And.intro (fun z => ?_) (fun z => ?_)
  · rw [if_pos z] at h; exact h
  rw [if_neg z] at h
  refine And.intro (fun z => ?_) (fun z => ?_)
  · have z : I 3 0 25 = 0 := z
    rw [if_pos z] at h; exact h
  · have z : ¬ I 3 0 25 = 0 := z
    rw [if_neg z] at h; exact h
theorem x_m_count (d : Nat) : S_m_count (sc_wpM (d + 2)) := fun I D K w h1 h2 => sc_open (d := d + 1) rfl (z_m_count (sc_wpM (d + 1)) (x_m_out (d + 0)) I D K w h1 h2)
end
section
/-! the class: its state seen by stages. S 0 i: the flight in stage i; S 1 i: its instruction; S 7 p: the instruction at place p (64: the one for no place); S 2 0: the object's numbers; S 4 j: its rows -/
def c_AB (I : sc_I) (D : sc_R) (S : sc_I) : Prop :=
  (∀ i j, i < 5 → j < 5 → D 6 0 i = D 6 0 j → i = j) ∧ (∀ i, i < 5 → I 0 (D 6 0 i) = S 0 i) ∧ (∀ i, i < 5 → I 1 (D 0 (D 6 0 i) 1) = S 1 i) ∧ (∀ p, p < 64 → I 1 (D 7 0 p) = S 7 p) ∧ I 1 (D 2 0 0) = S 7 64 ∧ I 2 0 = S 2 0 ∧ ∀ j, j < 4 → I 4 j = S 4 j
def c_mp (k i : Nat) : Prop := k = 3 ∨ k = 5 ∨ (k = 4 ∧ 4 ≤ i)
def c_MS (I0 I : sc_I) : Prop := ∀ k i, c_mp k i → I k i = I0 k i
def c_AM (I0 I : sc_I) (D : sc_R) (S : sc_I) : Prop := c_AB I D S ∧ c_MS I0 I
def c_x (i j : Nat) : Nat := bif Nat.beq j i then i + 1 else bif Nat.beq j (i + 1) then i else j
def c_sw (i : Nat) (S : sc_I) : sc_I := fun k j => bif (Nat.beq k 0 || Nat.beq k 1) then S k (c_x i j) else S k j
def c_in (p : Nat) (S : sc_I) : sc_I := fun k i => bif (Nat.beq k 1 && Nat.beq i 0) then S 7 p else S k i
section
variable {I0 I : sc_I} {D : sc_R} {S : sc_I}
theorem c_AM.fl (h : c_AM I0 I D S) {i : Nat} (hi : i < 5) (s : Nat) : I 0 (D 6 0 i) s = S 0 i s := congrFun (h.1.2.1 i hi) s
theorem c_AM.ir (h : c_AM I0 I D S) {i : Nat} (hi : i < 5) (s : Nat) : I 1 (D 0 (D 6 0 i) 1) s = S 1 i s := congrFun (h.1.2.2.1 i hi) s
theorem c_AM.pg (h : c_AM I0 I D S) {p : Nat} (hp : p < 64) (s : Nat) : I 1 (D 7 0 p) s = S 7 p s := congrFun (h.1.2.2.2.1 p hp) s
theorem c_AM.np (h : c_AM I0 I D S) (s : Nat) : I 1 (D 2 0 0) s = S 7 64 s := congrFun h.1.2.2.2.2.1 s
theorem c_AM.sc (h : c_AM I0 I D S) (s : Nat) : I 2 0 s = S 2 0 s := congrFun h.1.2.2.2.2.2.1 s
theorem c_AM.ar (h : c_AM I0 I D S) {j : Nat} (hj : j < 4) (x : Nat) : I 4 j x = S 4 j x := congrFun (h.1.2.2.2.2.2.2 j hj) x
theorem c_MS.put {k i s : Nat} {v : Int32} (h : c_MS I0 I) (hn : ¬ c_mp k i) : c_MS I0 (sc_u I k i s v) := fun a b hm => by
  rw [sc_u_row _ _ _ _ _ (fun e => hn (by rw [← e.1, ← e.2]; exact hm))]
  exact h a b hm
theorem c_AM.p0 (h : c_AM I0 I D S) {i s : Nat} {v w : Int32} (hi : i < 5) (hv : v = w) : c_AM I0 (sc_u I 0 (D 6 0 i) s v) D (sc_u S 0 i s w) := by
  subst hv
  obtain ⟨⟨h1, h2, h3, h4, h5, h6, h7⟩, hm⟩ := h
  refine ⟨⟨h1, fun j hj => ?_, h3, h4, h5, h6, h7⟩, hm.put (by unfold c_mp; omega)⟩
  by_cases e : j = i
  · subst e
    rw [sc_u_at, sc_u_at, h2 j hj]
  · rw [sc_u_row _ _ _ _ _ (fun z => e (h1 j i hj hi z.2)), sc_u_row _ _ _ _ _ (fun z => e z.2), h2 j hj]
theorem c_AM.p2 (h : c_AM I0 I D S) {s : Nat} {v w : Int32} (hv : v = w) : c_AM I0 (sc_u I 2 0 s v) D (sc_u S 2 0 s w) := by
  subst hv
  obtain ⟨⟨h1, h2, h3, h4, h5, h6, h7⟩, hm⟩ := h
  refine ⟨⟨h1, h2, h3, h4, h5, ?_, h7⟩, hm.put (by unfold c_mp; omega)⟩
  rw [sc_u_at, sc_u_at, h6]
theorem c_AM.p4 (h : c_AM I0 I D S) {j x y : Nat} {v w : Int32} (hj : j < 4) (hx : x = y) (hv : v = w) : c_AM I0 (sc_u I 4 j x v) D (sc_u S 4 j y w) := by
  subst hv
  subst hx
  obtain ⟨⟨h1, h2, h3, h4, h5, h6, h7⟩, hm⟩ := h
  refine ⟨⟨h1, h2, h3, h4, h5, h6, fun q hq => ?_⟩, hm.put (by unfold c_mp; omega)⟩
  by_cases e : q = j
  · subst e
    rw [sc_u_at, sc_u_at, h7 q hq]
  · rw [sc_u_row _ _ _ _ _ (fun z => e z.2), sc_u_row _ _ _ _ _ (fun z => e z.2), h7 q hq]
theorem c_x_i (i : Nat) : c_x i i = i + 1 := by unfold c_x; rw [Nat.beq_refl]; rfl
theorem c_x_s (i : Nat) : c_x i (i + 1) = i := by unfold c_x; rw [sc_beq_ne (show i + 1 ≠ i by omega), Nat.beq_refl]; rfl
theorem c_x_n {i j : Nat} (h1 : j ≠ i) (h2 : j ≠ i + 1) : c_x i j = j := by unfold c_x; rw [sc_beq_ne h1, sc_beq_ne h2]; rfl
theorem c_AM.sw (h : c_AM I0 I D S) {i : Nat} (hi : i + 1 < 5) : c_AM I0 I (sc_u (sc_u D 6 0 i (D 6 0 (i + 1))) 6 0 (i + 1) (D 6 0 i)) (c_sw i S) := by
  obtain ⟨⟨h1, h2, h3, h4, h5, h6, h7⟩, hm⟩ := h
  have e : ∀ j, sc_u (sc_u D 6 0 i (D 6 0 (i + 1))) 6 0 (i + 1) (D 6 0 i) 6 0 j = D 6 0 (c_x i j) := by
    intro j
    rw [sc_u_at]
    by_cases e1 : j = i + 1
    · subst e1
      rw [va_up_self, c_x_s]
    · rw [va_up_ne _ _ e1, sc_u_at]
      by_cases e2 : j = i
      · subst e2
        rw [va_up_self, c_x_i]
      · rw [va_up_ne _ _ e2, c_x_n e2 e1]
  have x5 : ∀ j, j < 5 → c_x i j < 5 := by
    intro j hj
    by_cases e1 : j = i
    · subst e1; rw [c_x_i]; exact hi
    · by_cases e2 : j = i + 1
      · subst e2; rw [c_x_s]; omega
      · rw [c_x_n e1 e2]; exact hj
  have xx : ∀ j, c_x i (c_x i j) = j := by
    intro j
    by_cases e1 : j = i
    · subst e1; rw [c_x_i, c_x_s]
    · by_cases e2 : j = i + 1
      · subst e2; rw [c_x_s, c_x_i]
      · rw [c_x_n e1 e2, c_x_n e1 e2]
  refine ⟨⟨fun a b ha hb hab => ?_, fun j hj => ?_, fun j hj => ?_, h4, h5, h6, h7⟩, hm⟩
  · rw [e, e] at hab
    have := h1 _ _ (x5 a ha) (x5 b hb) hab
    rw [← xx a, ← xx b, this]
  · rw [e]
    exact h2 _ (x5 j hj)
  · rw [e]
    exact h3 _ (x5 j hj)
theorem c_AM.ins (h : c_AM I0 I D S) {a p : Nat} (ha : I 1 a = S 7 p) : c_AM I0 I (sc_u D 0 (D 6 0 0) 1 a) (c_in p S) := by
  obtain ⟨⟨h1, h2, h3, h4, h5, h6, h7⟩, hm⟩ := h
  refine ⟨⟨h1, h2, fun j hj => ?_, h4, h5, h6, h7⟩, hm⟩
  show I 1 (sc_u D 0 (D 6 0 0) 1 a 0 (D 6 0 j) 1) = c_in p S 1 j
  by_cases e : j = 0
  · subst e
    rw [sc_u_at, va_up_self, ha]
    rfl
  · rw [sc_u_row _ _ _ _ _ (fun z => e (h1 j 0 hj (by decide) z.2)), h3 j hj]
    unfold c_in
    rw [sc_beq_ne e]
    rfl
end
def c_em5 (S : sc_I) : sc_I := sc_u (sc_u (sc_u (sc_u (sc_u S 0 0 0 0) 0 1 0 0) 0 2 0 0) 0 3 0 0) 0 4 0 0
def c_em2 (S : sc_I) : sc_I := sc_u (sc_u S 0 0 0 0) 0 1 0 0
def c_mv (i : Nat) (S : sc_I) : sc_I := if S 0 (i + 1) 0 = 0 then c_sw i S else S
abbrev S_empty5 (C : sc_CT) : Prop := ∀ (I : sc_I) (D : sc_R) (K : sc_RT) (I0 S : sc_I) (hA : c_AM I0 I D S) (h : ∀ I', c_AM I0 I' D (c_em5 S) → K none I' D), C 14 [.inr (2, 0), .inl 5] I D K
theorem z_empty5 (C : sc_CT)  (I : sc_I) (D : sc_R) (K : sc_RT) (I0 S : sc_I) (hA : c_AM I0 I D S) (h : ∀ I', c_AM I0 I' D (c_em5 S) → K none I' D) : sc_wp C K (sc_t 14) 5000 (sc_t 14) (sc_al 0 [.inr (2, 0), .inl 5]) [] I D := by
  exact br_f (by decide) (And.intro (sc_vi (by decide)) (And.intro (Or.inl rfl) (br_f (by decide) (And.intro (sc_vi (by decide)) (And.intro (Or.inl rfl) (br_f (by decide) (And.intro (sc_vi (by decide)) (And.intro (Or.inl rfl) (br_f (by decide) (And.intro (sc_vi (by decide)) (And.intro (Or.inl rfl) (br_f (by decide) (And.intro (sc_vi (by decide)) (And.intro (Or.inl rfl) (br_t (by decide) ((h _ (((((hA.p0 (i := 0) (by decide) rfl).p0 (i := 1) (by decide) rfl).p0 (i := 2) (by decide) rfl).p0 (i := 3) (by decide) rfl).p0 (i := 4) (by decide) rfl))))))))))))))))))
theorem x_empty5 (d : Nat) : S_empty5 (sc_wpM (d + 1)) := fun I D K I0 S hA h => sc_open (d := d) rfl (z_empty5 (sc_wpM (d))  I D K I0 S hA h)
abbrev S_empty2 (C : sc_CT) : Prop := ∀ (I : sc_I) (D : sc_R) (K : sc_RT) (I0 S : sc_I) (hA : c_AM I0 I D S) (h : ∀ I', c_AM I0 I' D (c_em2 S) → K none I' D), C 14 [.inr (2, 0), .inl 2] I D K
theorem z_empty2 (C : sc_CT)  (I : sc_I) (D : sc_R) (K : sc_RT) (I0 S : sc_I) (hA : c_AM I0 I D S) (h : ∀ I', c_AM I0 I' D (c_em2 S) → K none I' D) : sc_wp C K (sc_t 14) 5000 (sc_t 14) (sc_al 0 [.inr (2, 0), .inl 2]) [] I D := by
  exact br_f (by decide) (And.intro (sc_vi (by decide)) (And.intro (Or.inl rfl) (br_f (by decide) (And.intro (sc_vi (by decide)) (And.intro (Or.inl rfl) (br_t (by decide) ((h _ ((hA.p0 (i := 0) (by decide) rfl).p0 (i := 1) (by decide) rfl)))))))))
theorem x_empty2 (d : Nat) : S_empty2 (sc_wpM (d + 1)) := fun I D K I0 S hA h => sc_open (d := d) rfl (z_empty2 (sc_wpM (d))  I D K I0 S hA h)
abbrev S_move3 (C : sc_CT) : Prop := ∀ (I : sc_I) (D : sc_R) (K : sc_RT) (I0 S : sc_I) (hA : c_AM I0 I D S) (h : ∀ D', c_AM I0 I D' (c_mv 3 S) → K none I D'), C 20 [.inr (2, 0), .inl 3] I D K
theorem z_move3 (C : sc_CT)  (I : sc_I) (D : sc_R) (K : sc_RT) (I0 S : sc_I) (hA : c_AM I0 I D S) (h : ∀ D', c_AM I0 I D' (c_mv 3 S) → K none I D') : sc_wp C K (sc_t 20) 5000 (sc_t 20) (sc_al 0 [.inr (2, 0), .inl 3]) [] I D := by
  unfold c_mv at h
  refine And.intro (sc_vi (by decide)) ?_
  have e := hA.fl (i := 4) (by decide) 0
  by_cases b : S 0 4 0 = 0
  · rw [if_pos b] at h
    exact br_t (e.trans b) (And.intro (sc_vi (by decide)) (And.intro (sc_vi (by decide)) (And.intro (sc_vi (by decide)) (And.intro (sc_vi (by decide)) ((h _ (hA.sw (i := 3) (by decide))))))))
  · rw [if_neg b] at h
    exact br_f (fun z => b (e.symm.trans z)) (h _ hA)
theorem x_move3 (d : Nat) : S_move3 (sc_wpM (d + 1)) := fun I D K I0 S hA h => sc_open (d := d) rfl (z_move3 (sc_wpM (d))  I D K I0 S hA h)
abbrev S_move2 (C : sc_CT) : Prop := ∀ (I : sc_I) (D : sc_R) (K : sc_RT) (I0 S : sc_I) (hA : c_AM I0 I D S) (h : ∀ D', c_AM I0 I D' (c_mv 2 S) → K none I D'), C 20 [.inr (2, 0), .inl 2] I D K
theorem z_move2 (C : sc_CT)  (I : sc_I) (D : sc_R) (K : sc_RT) (I0 S : sc_I) (hA : c_AM I0 I D S) (h : ∀ D', c_AM I0 I D' (c_mv 2 S) → K none I D') : sc_wp C K (sc_t 20) 5000 (sc_t 20) (sc_al 0 [.inr (2, 0), .inl 2]) [] I D := by
  unfold c_mv at h
  refine And.intro (sc_vi (by decide)) ?_
  have e := hA.fl (i := 3) (by decide) 0
  by_cases b : S 0 3 0 = 0
  · rw [if_pos b] at h
    exact br_t (e.trans b) (And.intro (sc_vi (by decide)) (And.intro (sc_vi (by decide)) (And.intro (sc_vi (by decide)) (And.intro (sc_vi (by decide)) ((h _ (hA.sw (i := 2) (by decide))))))))
  · rw [if_neg b] at h
    exact br_f (fun z => b (e.symm.trans z)) (h _ hA)
theorem x_move2 (d : Nat) : S_move2 (sc_wpM (d + 1)) := fun I D K I0 S hA h => sc_open (d := d) rfl (z_move2 (sc_wpM (d))  I D K I0 S hA h)
abbrev S_move1 (C : sc_CT) : Prop := ∀ (I : sc_I) (D : sc_R) (K : sc_RT) (I0 S : sc_I) (hA : c_AM I0 I D S) (h : ∀ D', c_AM I0 I D' (c_mv 1 S) → K none I D'), C 20 [.inr (2, 0), .inl 1] I D K
theorem z_move1 (C : sc_CT)  (I : sc_I) (D : sc_R) (K : sc_RT) (I0 S : sc_I) (hA : c_AM I0 I D S) (h : ∀ D', c_AM I0 I D' (c_mv 1 S) → K none I D') : sc_wp C K (sc_t 20) 5000 (sc_t 20) (sc_al 0 [.inr (2, 0), .inl 1]) [] I D := by
  unfold c_mv at h
  refine And.intro (sc_vi (by decide)) ?_
  have e := hA.fl (i := 2) (by decide) 0
  by_cases b : S 0 2 0 = 0
  · rw [if_pos b] at h
    exact br_t (e.trans b) (And.intro (sc_vi (by decide)) (And.intro (sc_vi (by decide)) (And.intro (sc_vi (by decide)) (And.intro (sc_vi (by decide)) ((h _ (hA.sw (i := 1) (by decide))))))))
  · rw [if_neg b] at h
    exact br_f (fun z => b (e.symm.trans z)) (h _ hA)
theorem x_move1 (d : Nat) : S_move1 (sc_wpM (d + 1)) := fun I D K I0 S hA h => sc_open (d := d) rfl (z_move1 (sc_wpM (d))  I D K I0 S hA h)
abbrev S_move0 (C : sc_CT) : Prop := ∀ (I : sc_I) (D : sc_R) (K : sc_RT) (I0 S : sc_I) (hA : c_AM I0 I D S) (h : ∀ D', c_AM I0 I D' (c_mv 0 S) → K none I D'), C 20 [.inr (2, 0), .inl 0] I D K
theorem z_move0 (C : sc_CT)  (I : sc_I) (D : sc_R) (K : sc_RT) (I0 S : sc_I) (hA : c_AM I0 I D S) (h : ∀ D', c_AM I0 I D' (c_mv 0 S) → K none I D') : sc_wp C K (sc_t 20) 5000 (sc_t 20) (sc_al 0 [.inr (2, 0), .inl 0]) [] I D := by
  unfold c_mv at h
  refine And.intro (sc_vi (by decide)) ?_
  have e := hA.fl (i := 1) (by decide) 0
  by_cases b : S 0 1 0 = 0
  · rw [if_pos b] at h
    exact br_t (e.trans b) (And.intro (sc_vi (by decide)) (And.intro (sc_vi (by decide)) (And.intro (sc_vi (by decide)) (And.intro (sc_vi (by decide)) ((h _ (hA.sw (i := 0) (by decide))))))))
  · rw [if_neg b] at h
    exact br_f (fun z => b (e.symm.trans z)) (h _ hA)
theorem x_move0 (d : Nat) : S_move0 (sc_wpM (d + 1)) := fun I D K I0 S hA h => sc_open (d := d) rfl (z_move0 (sc_wpM (d))  I D K I0 S hA h)
end
section
abbrev c_wd (x : Int32) : Prop := x ≤ 11 ∨ x = 15 ∨ x = 16
abbrev c_br (x : Int32) : Prop := x = 13 ∨ x = 14
abbrev c_td (x : Int32) : Prop := x = 11 ∨ x = 12
abbrev c_ut (x : Int32) : Prop := x ≤ 8 ∨ x = 12 ∨ c_br x
abbrev c_us (x : Int32) : Prop := x ≤ 9 ∨ x = 11 ∨ x = 16 ∨ c_ut x
abbrev c_do (S : sc_I) (i : Nat) (q : Int32) : Prop := ¬ S 0 i 0 = 0 ∧ S 0 i 5 = 0 ∧ S 1 i 0 = q
abbrev c_wr (S : sc_I) (i : Nat) (r : Int32) : Prop := ¬ S 0 i 0 = 0 ∧ S 0 i 5 = 0 ∧ ¬ r = 0 ∧ c_wd (S 1 i 0) ∧ S 1 i 1 = r
theorem c_AM.does {I0 I : sc_I} {D : sc_R} {S : sc_I} (h : c_AM I0 I D S) {i : Nat} (hi : i < 5) (q : Int32) : sc_does I D (D 6 0 i) q ↔ c_do S i q := by
  unfold sc_does
  rw [h.fl hi, h.fl hi, h.ir hi]
theorem c_AM.wr {I0 I : sc_I} {D : sc_R} {S : sc_I} (h : c_AM I0 I D S) {i : Nat} (hi : i < 5) (r : Int32) : sc_wr I D (D 6 0 i) r ↔ c_wr S i r := by
  unfold sc_wr sc_wd
  rw [h.fl hi, h.fl hi, h.ir hi, h.ir hi]
def c_flt (S : sc_I) : sc_I := sc_u (c_em5 (sc_u (sc_u (sc_u S 2 0 16 (S 2 0 16 + 1)) 2 0 9 (S 0 4 5)) 2 0 10 (S 0 4 2))) 2 0 7 (S 2 0 8)
def c_hlt (S : sc_I) : sc_I := sc_u (c_em5 S) 2 0 11 1
def c_rm (x : Int32) : Int32 := x - x / 16 * 16
def c_reg (S : sc_I) : sc_I := if c_wr S 4 (S 1 4 1) then sc_u S 4 1 (S 1 4 1).toNatClampNeg (S 0 4 7) else S
def c_ret (S : sc_I) : sc_I := sc_u (sc_u (sc_u (c_reg S) 4 3 (c_rm (S 2 0 13)).toNatClampNeg (S 0 4 2)) 2 0 13 (S 2 0 13 + 1)) 0 4 0 0
abbrev c_end (S : sc_I) : Prop := ¬ S 0 4 0 = 0 ∧ (¬ S 0 4 5 = 0 ∨ S 1 4 0 = 18)
def c_lv (S : sc_I) : sc_I := if S 0 4 0 = 0 then S else if S 0 4 5 = 0 then (if S 1 4 0 = 18 then c_hlt S else c_ret S) else c_flt S
abbrev S_takeFault (C : sc_CT) : Prop := ∀ (I : sc_I) (D : sc_R) (K : sc_RT) (I0 S : sc_I) (hA : c_AM I0 I D S) (h : ∀ I', c_AM I0 I' D (c_flt S) → K none I' D), C 17 [.inr (2, 0), .inr (0, D 6 0 4)] I D K
theorem z_takeFault (C : sc_CT) (c1 : S_empty5 C) (I : sc_I) (D : sc_R) (K : sc_RT) (I0 S : sc_I) (hA : c_AM I0 I D S) (h : ∀ I', c_AM I0 I' D (c_flt S) → K none I' D) : sc_wp C K (sc_t 17) 5000 (sc_t 17) (sc_al 0 [.inr (2, 0), .inr (0, D 6 0 4)]) [] I D := by
  refine c1 _ _ _ I0 _ (((hA.p2 (congrArg (· + 1) (hA.sc 16))).p2 (hA.fl (i := 4) (by decide) 5)).p2 (hA.fl (i := 4) (by decide) 2)) (fun I' h' => ?_)
  exact h _ (h'.p2 (h'.sc 8))
theorem x_takeFault (d : Nat) : S_takeFault (sc_wpM (d + 2)) := fun I D K I0 S hA h => sc_open (d := d + 1) rfl (z_takeFault (sc_wpM (d + 1)) (x_empty5 (d + 0)) I D K I0 S hA h)
abbrev S_retire (C : sc_CT) : Prop := ∀ (I : sc_I) (D : sc_R) (K : sc_RT) (I0 S : sc_I) (hA : c_AM I0 I D S) (hd : vp_in (S 1 4 1) 16) (hx : vp_in (c_rm (S 2 0 13)) 16) (h : ∀ I', c_AM I0 I' D (c_ret S) → K none I' D), C 18 [.inr (2, 0), .inr (0, D 6 0 4)] I D K
theorem z_retire (C : sc_CT) (c1 : S_writes C) (I : sc_I) (D : sc_R) (K : sc_RT) (I0 S : sc_I) (hA : c_AM I0 I D S) (hd : vp_in (S 1 4 1) 16) (hx : vp_in (c_rm (S 2 0 13)) 16) (h : ∀ I', c_AM I0 I' D (c_ret S) → K none I' D) : sc_wp C K (sc_t 18) 5000 (sc_t 18) (sc_al 0 [.inr (2, 0), .inr (0, D 6 0 4)]) [] I D := by
  have e1 := hA.ir (i := 4) (by decide) 1
  have e2 := hA.sc 13
  have hd' : vp_in (I 1 (D 0 (D 6 0 4) 1) 1) 16 := by rw [e1]; exact hd
  have hx' : vp_in (I 2 0 13 - I 2 0 13 / 16 * 16) 16 := by rw [e2]; exact hx
  refine c1 _ _ _ _ _ (fun a => br_f (by decide) ?_) (fun a => br_t (by decide) ?_)
  · rw [hA.wr (by decide), e1] at a
    have h1 : c_AM I0 (sc_u I 4 1 (I 1 (D 0 (D 6 0 4) 1) 1).toNatClampNeg (I 0 (D 6 0 4) 7)) D (c_reg S) := by
      unfold c_reg
      rw [if_pos a]
      exact hA.p4 (by decide) (by rw [e1]) (hA.fl (i := 4) (by decide) 7)
    refine And.intro hd' (And.intro (by decide) (And.intro hx' (And.intro (Or.inl rfl) (h _ ?_))))
    exact ((h1.p4 (by decide) (by rw [← e2]; rfl) (hA.fl (i := 4) (by decide) 2)).p2 (congrArg (· + 1) e2)).p0 (i := 4) (by decide) rfl
  · rw [hA.wr (by decide), e1] at a
    have h1 : c_AM I0 I D (c_reg S) := by
      unfold c_reg
      rw [if_neg a]
      exact hA
    refine And.intro (by decide) (And.intro hx' (And.intro (Or.inl rfl) (h _ ?_)))
    exact ((h1.p4 (by decide) (by rw [← e2]; rfl) (hA.fl (i := 4) (by decide) 2)).p2 (congrArg (· + 1) e2)).p0 (i := 4) (by decide) rfl
theorem x_retire (d : Nat) : S_retire (sc_wpM (d + 3)) := fun I D K I0 S hA hd hx h => sc_open (d := d + 2) rfl (z_retire (sc_wpM (d + 2)) (x_writes (d + 0)) I D K I0 S hA hd hx h)
abbrev S_leaveEnds (C : sc_CT) : Prop := ∀ (I : sc_I) (D : sc_R) (K : sc_RT) (I0 S : sc_I) (hA : c_AM I0 I D S) (hd : vp_in (S 1 4 1) 16) (hx : vp_in (c_rm (S 2 0 13)) 16) (ht : c_end S → ∀ I', c_AM I0 I' D (c_lv S) → K (some (.inl 1)) I' D) (hf : ¬ c_end S → ∀ I', c_AM I0 I' D (c_lv S) → K (some (.inl 0)) I' D), C 19 [.inr (2, 0), .inr (0, D 6 0 4)] I D K
theorem z_leaveEnds (C : sc_CT) (c1 : S_takeFault C) (c2 : S_does C) (c3 : S_empty5 C) (c4 : S_retire C) (I : sc_I) (D : sc_R) (K : sc_RT) (I0 S : sc_I) (hA : c_AM I0 I D S) (hd : vp_in (S 1 4 1) 16) (hx : vp_in (c_rm (S 2 0 13)) 16) (ht : c_end S → ∀ I', c_AM I0 I' D (c_lv S) → K (some (.inl 1)) I' D) (hf : ¬ c_end S → ∀ I', c_AM I0 I' D (c_lv S) → K (some (.inl 0)) I' D) : sc_wp C K (sc_t 19) 5000 (sc_t 19) (sc_al 0 [.inr (2, 0), .inr (0, D 6 0 4)]) [] I D := by
  unfold c_lv at ht hf
  by_cases h0 : S 0 4 0 = 0
  · rw [if_pos h0] at hf
    exact br_t ((hA.fl (i := 4) (by decide) 0).trans h0) (And.intro (Or.inl rfl) (hf (fun z => z.1 h0) _ hA))
  rw [if_neg h0] at ht hf
  refine br_f (fun z => h0 ((hA.fl (i := 4) (by decide) 0).symm.trans z)) ?_
  by_cases h1 : S 0 4 5 = 0
  · rw [if_pos h1] at ht hf
    refine br_t ((hA.fl (i := 4) (by decide) 5).trans h1) ?_
    refine c2 _ _ _ _ _ (fun a => br_f (by decide) ?_) (fun a => br_t (by decide) ?_)
    · rw [hA.does (by decide)] at a
      rw [if_pos a.2.2] at ht
      exact c3 _ _ _ I0 S hA (fun I' h' => And.intro (Or.inr rfl) (And.intro (Or.inr rfl) (ht ⟨h0, Or.inr a.2.2⟩ _ (h'.p2 rfl))))
    · rw [hA.does (by decide)] at a
      have h2 : ¬ S 1 4 0 = 18 := fun e => a ⟨h0, h1, e⟩
      rw [if_neg h2] at hf
      exact c4 _ _ _ I0 S hA hd hx (fun I' h' => And.intro (Or.inl rfl) (hf (fun z => z.2.elim (fun w => w h1) h2) _ h'))
  · rw [if_neg h1] at ht
    refine br_f (fun z => h1 ((hA.fl (i := 4) (by decide) 5).symm.trans z)) ?_
    exact c1 _ _ _ I0 S hA (fun I' h' => And.intro (Or.inr rfl) (ht ⟨h0, Or.inl h1⟩ _ h'))
theorem x_leaveEnds (d : Nat) : S_leaveEnds (sc_wpM (d + 4)) := fun I D K I0 S hA hd hx ht hf => sc_open (d := d + 3) rfl (z_leaveEnds (sc_wpM (d + 3)) (x_takeFault (d + 1)) (x_does (d + 2)) (x_empty5 (d + 2)) (x_retire (d + 0)) I D K I0 S hA hd hx ht hf)
def c_mem (S : sc_I) : sc_I := if c_do S 3 11 then c_mv 3 (sc_u S 0 3 7 (S 4 0 (S 0 3 6).toNatClampNeg)) else if c_do S 3 12 then c_mv 3 (sc_u S 4 0 (S 0 3 6).toNatClampNeg (S 0 3 7)) else c_mv 3 S
abbrev S_passMemory (C : sc_CT) : Prop := ∀ (I : sc_I) (D : sc_R) (K : sc_RT) (I0 S : sc_I) (hA : c_AM I0 I D S) (ha : (c_do S 3 11 ∨ c_do S 3 12) → vp_in (S 0 3 6) 32) (h : ∀ I' D', c_AM I0 I' D' (c_mem S) → K none I' D'), C 21 [.inr (2, 0), .inr (0, D 6 0 3)] I D K
theorem z_passMemory (C : sc_CT) (c1 : S_does C) (c2 : S_move3 C) (I : sc_I) (D : sc_R) (K : sc_RT) (I0 S : sc_I) (hA : c_AM I0 I D S) (ha : (c_do S 3 11 ∨ c_do S 3 12) → vp_in (S 0 3 6) 32) (h : ∀ I' D', c_AM I0 I' D' (c_mem S) → K none I' D') : sc_wp C K (sc_t 21) 5000 (sc_t 21) (sc_al 0 [.inr (2, 0), .inr (0, D 6 0 3)]) [] I D := by
  unfold c_mem at h
  have e6 := hA.fl (i := 3) (by decide) 6
  refine c1 _ _ _ _ _ (fun a => br_f (by decide) ?_) (fun a => br_t (by decide) ?_)
  · rw [hA.does (by decide)] at a
    rw [if_pos a] at h
    have hv : vp_in (I 0 (D 6 0 3) 6) 32 := by rw [e6]; exact ha (Or.inl a)
    exact And.intro hv (c2 _ _ _ I0 _ (hA.p0 (i := 3) (s := 7) (by decide) ((hA.ar (by decide) _).trans (by rw [e6]))) (fun D' h' => h _ _ h'))
  · rw [hA.does (by decide)] at a
    rw [if_neg a] at h
    refine c1 _ _ _ _ _ (fun b => br_f (by decide) ?_) (fun b => br_t (by decide) ?_)
    · rw [hA.does (by decide)] at b
      rw [if_pos b] at h
      have hv : vp_in (I 0 (D 6 0 3) 6) 32 := by rw [e6]; exact ha (Or.inr b)
      exact And.intro hv (c2 _ _ _ I0 _ (hA.p4 (by decide) (by rw [e6]) (hA.fl (i := 3) (by decide) 7)) (fun D' h' => h _ _ h'))
    · rw [hA.does (by decide)] at b
      rw [if_neg b] at h
      exact c2 _ _ _ I0 _ hA (fun D' h' => h _ _ h')
theorem x_passMemory (d : Nat) : S_passMemory (sc_wpM (d + 2)) := fun I D K I0 S hA ha h => sc_open (d := d + 1) rfl (z_passMemory (sc_wpM (d + 1)) (x_does (d + 0)) (x_move3 (d + 0)) I D K I0 S hA ha h)
abbrev c_nl (S : sc_I) : Prop := c_do S 4 11 ∧ ((c_us (S 1 2 0) ∧ c_wr S 4 (S 1 2 2)) ∨ (c_ut (S 1 2 0) ∧ c_wr S 4 (S 1 2 3)))
abbrev S_needsLoad (C : sc_CT) : Prop := ∀ (I : sc_I) (D : sc_R) (K : sc_RT) (I0 S : sc_I) (hA : c_AM I0 I D S) (ht : c_nl S → K (some (.inl 1)) I D) (hf : ¬ c_nl S → K (some (.inl 0)) I D), C 22 [.inr (2, 0), .inr (1, D 0 (D 6 0 2) 1)] I D K
theorem z_needsLoad (C : sc_CT) (c1 : S_does C) (c2 : S_usesS C) (c3 : S_usesT C) (c4 : S_writes C) (I : sc_I) (D : sc_R) (K : sc_RT) (I0 S : sc_I) (hA : c_AM I0 I D S) (ht : c_nl S → K (some (.inl 1)) I D) (hf : ¬ c_nl S → K (some (.inl 0)) I D) : sc_wp C K (sc_t 22) 5000 (sc_t 22) (sc_al 0 [.inr (2, 0), .inr (1, D 0 (D 6 0 2) 1)]) [] I D := by
  have e0 := hA.ir (i := 2) (by decide) 0
  have e2 := hA.ir (i := 2) (by decide) 2
  have e3 := hA.ir (i := 2) (by decide) 3
  refine And.intro (sc_vi (by decide)) (c1 _ _ _ _ _ (fun a => br_f (by decide) ?_) (fun a => br_t (by decide) (And.intro (Or.inl rfl) (hf (fun z => a ((hA.does (by decide) _).mpr z.1))))))
  rw [hA.does (by decide)] at a
  refine c2 _ _ _ _ (fun b => br_f (by decide) (c4 _ _ _ _ _ (fun b2 => br_f (by decide) (And.intro (Or.inr rfl) (ht ?_))) (fun b2 => br_t (by decide) ?_))) (fun b => br_t (by decide) ?_)
  · rw [hA.wr (by decide), e2] at b2
    rw [e0] at b
    exact ⟨a, Or.inl ⟨b, b2⟩⟩
  · rw [hA.wr (by decide), e2] at b2
    refine c3 _ _ _ _ (fun d1 => br_f (by decide) (c4 _ _ _ _ _ (fun d2 => br_f (by decide) (And.intro (Or.inr rfl) (ht ?_))) (fun d2 => br_t (by decide) (And.intro (Or.inl rfl) (hf ?_))))) (fun d1 => br_t (by decide) (And.intro (Or.inl rfl) (hf ?_)))
    · rw [hA.wr (by decide), e3] at d2
      rw [e0] at d1
      exact ⟨a, Or.inr ⟨d1, d2⟩⟩
    · rw [hA.wr (by decide), e3] at d2
      exact fun z => z.2.elim (fun w => b2 w.2) (fun w => d2 w.2)
    · rw [e0] at d1
      exact fun z => z.2.elim (fun w => b2 w.2) (fun w => d1 w.1)
  · rw [e0] at b
    refine c3 _ _ _ _ (fun d1 => br_f (by decide) (c4 _ _ _ _ _ (fun d2 => br_f (by decide) (And.intro (Or.inr rfl) (ht ?_))) (fun d2 => br_t (by decide) (And.intro (Or.inl rfl) (hf ?_))))) (fun d1 => br_t (by decide) (And.intro (Or.inl rfl) (hf ?_)))
    · rw [hA.wr (by decide), e3] at d2
      rw [e0] at d1
      exact ⟨a, Or.inr ⟨d1, d2⟩⟩
    · rw [hA.wr (by decide), e3] at d2
      exact fun z => z.2.elim (fun w => b w.1) (fun w => d2 w.2)
    · rw [e0] at d1
      exact fun z => z.2.elim (fun w => b w.1) (fun w => d1 w.1)
theorem x_needsLoad (d : Nat) : S_needsLoad (sc_wpM (d + 4)) := fun I D K I0 S hA ht hf => sc_open (d := d + 3) rfl (z_needsLoad (sc_wpM (d + 3)) (x_does (d + 2)) (x_usesS (d + 0)) (x_usesT (d + 1)) (x_writes (d + 1)) I D K I0 S hA ht hf)
def c_hd (S : sc_I) (r : Int32) : Int32 := if c_wr S 4 r then S 0 4 7 else S 4 1 r.toNatClampNeg
abbrev S_handedOn (C : sc_CT) : Prop := ∀ (I : sc_I) (D : sc_R) (K : sc_RT) (I0 S : sc_I) (r : Int32) (hA : c_AM I0 I D S) (hr : vp_in r 16) (h : K (some (.inl (c_hd S r))) I D), C 23 [.inr (2, 0), .inl r] I D K
theorem z_handedOn (C : sc_CT) (c1 : S_writes C) (I : sc_I) (D : sc_R) (K : sc_RT) (I0 S : sc_I) (r : Int32) (hA : c_AM I0 I D S) (hr : vp_in r 16) (h : K (some (.inl (c_hd S r))) I D) : sc_wp C K (sc_t 23) 5000 (sc_t 23) (sc_al 0 [.inr (2, 0), .inl r]) [] I D := by
  unfold c_hd at h
  refine And.intro (sc_vi (by decide)) (c1 _ _ _ _ _ (fun a => br_f (by decide) ?_) (fun a => br_t (by decide) ?_))
  · have a : c_wr S 4 r := (hA.wr (i := 4) (by decide) r).mp a
    rw [if_pos a, ← hA.fl (i := 4) (by decide) 7] at h
    exact h
  · have a : ¬ c_wr S 4 r := fun z => a ((hA.wr (i := 4) (by decide) r).mpr z)
    rw [if_neg a, ← hA.ar (j := 1) (by decide)] at h
    exact And.intro hr h
theorem x_handedOn (d : Nat) : S_handedOn (sc_wpM (d + 3)) := fun I D K I0 S r hA hr h => sc_open (d := d + 2) rfl (z_handedOn (sc_wpM (d + 2)) (x_writes (d + 0)) I D K I0 S r hA hr h)
def c_fo (op n s t : Int32) : Int32 := if op = 17 then 2 else if c_td op ∧ ¬ (0 ≤ s + n ∧ s + n < 32) then 3 else if op = 8 ∧ t = 0 then 4 else 0
abbrev S_faultOf (C : sc_CT) : Prop := ∀ (I : sc_I) (D : sc_R) (K : sc_RT) (a : Nat) (s t : Int32) (h : K (some (.inl (c_fo (I 1 a 0) (I 1 a 4) s t))) I D), C 25 [.inr (1, a), .inl s, .inl t] I D K
theorem z_faultOf (C : sc_CT) (c1 : S_touchesData C) (c2 : S_isWord C) (I : sc_I) (D : sc_R) (K : sc_RT) (a : Nat) (s t : Int32) (h : K (some (.inl (c_fo (I 1 a 0) (I 1 a 4) s t))) I D) : sc_wp C K (sc_t 25) 5000 (sc_t 25) (sc_al 0 [.inr (1, a), .inl s, .inl t]) [] I D := by
  unfold c_fo at h
  by_cases b1 : I 1 a 0 = 17
  · rw [if_pos b1] at h
    exact br_t b1 h
  rw [if_neg b1] at h
  refine br_f b1 ?_
  have tail : ∀ n : Nat, ¬ (c_td (I 1 a 0) ∧ ¬ (0 ≤ s + I 1 a 4 ∧ s + I 1 a 4 < 32)) → sc_wp C K (sc_t 25) (n + 40) (sc_sf (sc_t 25) 32) (sc_al 0 [.inr (1, a), .inl s, .inl t]) [] I D := by
    intro n b2
    rw [if_neg b2] at h
    by_cases b3 : I 1 a 0 = 8
    · refine br_t b3 ?_
      by_cases b4 : t = 0
      · rw [if_pos ⟨b3, b4⟩] at h
        exact br_t b4 h
      · rw [if_neg (fun z => b4 z.2)] at h
        exact br_f b4 h
    · rw [if_neg (fun z => b3 z.1)] at h
      exact br_f b3 h
  refine c1 _ _ _ _ (fun b => br_f (by decide) (c2 _ _ _ _ (fun b2 => br_f (by decide) (tail _ (fun z => z.2 b2))) (fun b2 => br_t (by decide) ?_))) (fun b => br_t (by decide) (tail _ (fun z => b z.1)))
  rw [if_pos ⟨b, b2⟩] at h
  exact h
theorem x_faultOf (d : Nat) : S_faultOf (sc_wpM (d + 2)) := fun I D K a s t h => sc_open (d := d + 1) rfl (z_faultOf (sc_wpM (d + 1)) (x_touchesData (d + 0)) (x_isWord (d + 0)) I D K a s t h)
abbrev c_go (op s t : Int32) : Prop := (op = 13 ∧ s = t) ∨ (op = 14 ∧ ¬ s = t) ∨ op = 15 ∨ op = 16
abbrev S_goesElse (C : sc_CT) : Prop := ∀ (I : sc_I) (D : sc_R) (K : sc_RT) (op s t : Int32) (ht : c_go op s t → K (some (.inl 1)) I D) (hf : ¬ c_go op s t → K (some (.inl 0)) I D), C 27 [.inl op, .inl s, .inl t] I D K
theorem z_goesElse (C : sc_CT)  (I : sc_I) (D : sc_R) (K : sc_RT) (op s t : Int32) (ht : c_go op s t → K (some (.inl 1)) I D) (hf : ¬ c_go op s t → K (some (.inl 0)) I D) : sc_wp C K (sc_t 27) 5000 (sc_t 27) (sc_al 0 [.inl op, .inl s, .inl t]) [] I D := by
  refine And.intro (fun a => ?_) (fun a => And.intro (fun b => ?_) (fun b => And.intro (fun d => ?_) (fun d => And.intro (fun e => ?_) (fun e => ?_))))
  · have a : op = 13 := a
    refine And.intro (fun z => And.intro (Or.inr rfl) (ht (Or.inl ⟨a, z⟩))) (fun z => And.intro (Or.inl rfl) (hf ?_))
    subst a
    rintro (w | w | w | w)
    · exact z w.2
    · exact absurd w.1 (by decide)
    · exact absurd w (by decide)
    · exact absurd w (by decide)
  · have b : op = 14 := b
    refine And.intro (fun z => And.intro (Or.inl rfl) (hf ?_)) (fun z => And.intro (Or.inr rfl) (ht (Or.inr (Or.inl ⟨b, z⟩))))
    subst b
    rintro (w | w | w | w)
    · exact absurd w.1 (by decide)
    · exact w.2 z
    · exact absurd w (by decide)
    · exact absurd w (by decide)
  · exact And.intro (Or.inr rfl) (ht (Or.inr (Or.inr (Or.inl d))))
  · exact And.intro (Or.inr rfl) (ht (Or.inr (Or.inr (Or.inr e))))
  · refine And.intro (Or.inl rfl) (hf ?_)
    rintro (w | w | w | w)
    · exact a w.1
    · exact b w.1
    · exact d w
    · exact e w
theorem x_goesElse (d : Nat) : S_goesElse (sc_wpM (d + 1)) := fun I D K op s t ht hf => sc_open (d := d) rfl (z_goesElse (sc_wpM (d))  I D K op s t ht hf)
def c_tg (op n pl s : Int32) : Int32 := (if op = 16 then s else pl) + n
abbrev S_target (C : sc_CT) : Prop := ∀ (I : sc_I) (D : sc_R) (K : sc_RT) (f : Nat) (s : Int32) (h : K (some (.inl (c_tg (I 1 (D 0 f 1) 0) (I 1 (D 0 f 1) 4) (I 0 f 2) s))) I D), C 30 [.inr (0, f), .inl s] I D K
theorem z_target (C : sc_CT)  (I : sc_I) (D : sc_R) (K : sc_RT) (f : Nat) (s : Int32) (h : K (some (.inl (c_tg (I 1 (D 0 f 1) 0) (I 1 (D 0 f 1) 4) (I 0 f 2) s))) I D) : sc_wp C K (sc_t 30) 5000 (sc_t 30) (sc_al 0 [.inr (0, f), .inl s]) [] I D := by
  unfold c_tg at h
  by_cases b : I 1 (D 0 f 1) 0 = 16
  · rw [if_pos b] at h
    exact br_t b h
  · rw [if_neg b] at h
    exact br_f b h
theorem x_target (d : Nat) : S_target (sc_wpM (d + 1)) := fun I D K f s h => sc_open (d := d) rfl (z_target (sc_wpM (d))  I D K f s h)
def c_vo (op n pl s t : Int32) : Int32 := if op = 0 then s + t else if op = 1 then s - t else if op = 2 then s &&& t else if op = 3 then s ||| t else if op = 4 then s ^^^ t else if op = 5 then s <<< (t &&& 31 &&& 31) else if op = 6 then (if s < t then 1 else 0) else if op = 7 then s * t else if op = 8 then (if t = 0 then 0 else s / t) else if op = 9 then s + n else if op = 10 then n else if op = 12 then t else if op = 15 then pl + 1 else if op = 16 then pl + 1 else 0
abbrev S_valueOf (C : sc_CT) : Prop := ∀ (I : sc_I) (D : sc_R) (K : sc_RT) (f : Nat) (s t : Int32) (h : K (some (.inl (c_vo (I 1 (D 0 f 1) 0) (I 1 (D 0 f 1) 4) (I 0 f 2) s t))) I D), C 26 [.inr (0, f), .inl s, .inl t] I D K
theorem z_valueOf (C : sc_CT)  (I : sc_I) (D : sc_R) (K : sc_RT) (f : Nat) (s t : Int32) (h : K (some (.inl (c_vo (I 1 (D 0 f 1) 0) (I 1 (D 0 f 1) 4) (I 0 f 2) s t))) I D) : sc_wp C K (sc_t 26) 5000 (sc_t 26) (sc_al 0 [.inr (0, f), .inl s, .inl t]) [] I D := by
  unfold c_vo at h
  refine And.intro (fun h0 => ?_) (fun h0 => ?_)
  · rw [if_pos h0] at h; exact h
  rw [if_neg h0] at h
  refine And.intro (fun h0 => ?_) (fun h0 => ?_)
  · rw [if_pos h0] at h; exact h
  rw [if_neg h0] at h
  refine And.intro (fun h0 => ?_) (fun h0 => ?_)
  · rw [if_pos h0] at h; exact h
  rw [if_neg h0] at h
  refine And.intro (fun h0 => ?_) (fun h0 => ?_)
  · rw [if_pos h0] at h; exact h
  rw [if_neg h0] at h
  refine And.intro (fun h0 => ?_) (fun h0 => ?_)
  · rw [if_pos h0] at h; exact h
  rw [if_neg h0] at h
  refine And.intro (fun h0 => ?_) (fun h0 => ?_)
  · rw [if_pos h0] at h; exact h
  rw [if_neg h0] at h
  refine And.intro (fun h0 => ?_) (fun h0 => ?_)
  · rw [if_pos h0] at h
    refine And.intro (fun h1 => ?_) (fun h1 => ?_)
    · rw [if_neg (by grind)] at h; exact h
    · rw [if_pos (by grind)] at h; exact h
  rw [if_neg h0] at h
  refine And.intro (fun h0 => ?_) (fun h0 => ?_)
  · rw [if_pos h0] at h; exact h
  rw [if_neg h0] at h
  refine And.intro (fun h0 => ?_) (fun h0 => ?_)
  · rw [if_pos h0] at h
    refine And.intro (fun h1 => ?_) (fun h1 => ?_)
    · rw [if_pos h1] at h; exact h
    · rw [if_neg h1] at h; exact And.intro h1 h
  rw [if_neg h0] at h
  refine And.intro (fun h0 => ?_) (fun h0 => ?_)
  · rw [if_pos h0] at h; exact h
  rw [if_neg h0] at h
  refine And.intro (fun h0 => ?_) (fun h0 => ?_)
  · rw [if_pos h0] at h; exact h
  rw [if_neg h0] at h
  refine And.intro (fun h11 => ?_) (fun h11 => ?_)
  · have h11 : I 1 (D 0 f 1) 0 = 11 := h11
    rw [if_neg (by rw [h11]; decide), if_neg (by rw [h11]; decide), if_neg (by rw [h11]; decide)] at h; exact h
  refine And.intro (fun h0 => ?_) (fun h0 => ?_)
  · rw [if_pos h0] at h; exact h
  rw [if_neg h0] at h
  refine And.intro (fun h13 => ?_) (fun h13 => ?_)
  · have h13 : I 1 (D 0 f 1) 0 = 13 := h13
    rw [if_neg (by rw [h13]; decide), if_neg (by rw [h13]; decide)] at h; exact h
  refine And.intro (fun h14 => ?_) (fun h14 => ?_)
  · have h14 : I 1 (D 0 f 1) 0 = 14 := h14
    rw [if_neg (by rw [h14]; decide), if_neg (by rw [h14]; decide)] at h; exact h
  refine And.intro (fun h0 => ?_) (fun h0 => ?_)
  · rw [if_pos h0] at h; exact h
  rw [if_neg h0] at h
  refine And.intro (fun h0 => ?_) (fun h0 => ?_)
  · rw [if_pos h0] at h; exact h
  rw [if_neg h0] at h
  exact h
theorem x_valueOf (d : Nat) : S_valueOf (sc_wpM (d + 1)) := fun I D K f s t h => sc_open (d := d) rfl (z_valueOf (sc_wpM (d))  I D K f s t h)
end
section
theorem c_x8 (x : Int32) : 0 ≤ x ^^^ 8 ↔ 0 ≤ x := by
  rw [Int32.le_iff_toInt_le, Int32.le_iff_toInt_le]
  have m : (x.toBitVec ^^^ (8 : Int32).toBitVec).msb = x.toBitVec.msb := by
    rw [BitVec.msb_xor, show (8 : Int32).toBitVec.msb = false by decide, Bool.xor_false]
  rw [BitVec.msb_eq_toInt, BitVec.msb_eq_toInt] at m
  have e1 : (x ^^^ 8).toInt = (x.toBitVec ^^^ (8 : Int32).toBitVec).toInt := rfl
  have e2 : x.toInt = x.toBitVec.toInt := rfl
  have m := decide_eq_decide.mp m
  rw [e1, e2]
  show (0 : Int) ≤ _ ↔ (0 : Int) ≤ _
  omega
theorem c_fm8 (x : Int32) : (if ¬ 0 ≤ x ^^^ 8 ∧ ¬ x - x / 8 * 8 = 0 then x - x / 8 * 8 + 8 else x - x / 8 * 8) = x &&& 7 := by
  by_cases h : 0 ≤ x
  · rw [if_neg (fun z => z.1 ((c_x8 x).mpr h))]
    obtain ⟨j, hj, rfl⟩ := nI_of (x := x) (by
      intro z
      have a := Int32.lt_iff_toInt_lt.mp z
      have b := Int32.le_iff_toInt_le.mp h
      rw [show (0 : Int32).toInt = 0 from rfl] at a b
      omega)
    rw [pk_andN (by omega) (m := 7) 3 (by decide)]
    exact pk_rem (d := 8) hj (by decide) (by decide)
  · have hX : x.toInt < 0 := Int.not_le.mp (fun z => h (Int32.le_iff_toInt_le.mpr z))
    have hlo : -2147483648 ≤ x.toInt := Int32.le_toInt x
    obtain ⟨y, hy⟩ : ∃ y : Nat, x.toInt = -(y : Int) := ⟨x.toInt.natAbs, by omega⟩
    have hd := Int32.toInt_div_of_ne_right x 8 (by decide)
    rw [hy, show (8 : Int32).toInt = 8 from rfl, Int.neg_tdiv, Int.tdiv_eq_ediv_of_nonneg (by omega)] at hd
    have hm : (x / 8 * 8).toInt = -((y : Int) / 8) * 8 := by
      rw [Int32.toInt_mul, hd, show (8 : Int32).toInt = 8 from rfl]
      exact Int.bmod_eq_of_le (by omega) (by omega)
    have hr : (x - x / 8 * 8).toInt = -((y : Int) % 8) := by
      rw [Int32.toInt_sub, hm, hy, Int.bmod_eq_of_le (by omega) (by omega)]
      omega
    have hu : (x &&& 7).toInt = ((x.toBitVec.toNat % 8 : Nat) : Int) := by
      rw [pk_and x (m := 7) 3 (by decide), nI_toInt (by omega)]
    have hc : x.toInt = (x.toBitVec.toNat : Int) - 4294967296 := by
      have e : x.toInt = x.toBitVec.toInt := rfl
      rw [e] at hX ⊢
      rw [BitVec.toInt_eq_toNat_cond] at hX ⊢
      split at hX
      · omega
      · rw [if_neg (by assumption)]
        rfl
    by_cases hz : x - x / 8 * 8 = 0
    · rw [if_neg (fun z => z.2 hz)]
      apply Int32.toInt_inj.mp
      rw [hz] at hr
      rw [hz, hu]
      have : (0 : Int32).toInt = 0 := rfl
      omega
    · rw [if_pos ⟨fun z => h ((c_x8 x).mp z), hz⟩]
      have hz' : ¬ (x - x / 8 * 8).toInt = 0 := fun e => hz (Int32.toInt_inj.mp (by rw [e]; rfl))
      apply Int32.toInt_inj.mp
      rw [Int32.toInt_add, hr, hu, show (8 : Int32).toInt = 8 from rfl, Int.bmod_eq_of_le (by omega) (by omega)]
      rw [hr] at hz'
      omega
abbrev S_floorMod8 (C : sc_CT) : Prop := ∀ (I : sc_I) (D : sc_R) (K : sc_RT) (x : Int32) (h : K (some (.inl (x &&& 7))) I D), C 28 [.inl x, .inl 8] I D K
theorem z_floorMod8 (C : sc_CT)  (I : sc_I) (D : sc_R) (K : sc_RT) (x : Int32) (h : K (some (.inl (x &&& 7))) I D) : sc_wp C K (sc_t 28) 5000 (sc_t 28) (sc_al 0 [.inl x, .inl 8]) [] I D := by
  rw [← c_fm8 x] at h
  refine And.intro (by decide) ?_
  by_cases b : 0 ≤ x ^^^ 8
  · rw [if_neg (fun z => z.1 b)] at h
    exact br_t b h
  · refine br_f b ?_
    by_cases b2 : x - x / 8 * 8 = 0
    · rw [if_neg (fun z => z.2 b2)] at h
      exact br_t b2 h
    · rw [if_pos ⟨b, b2⟩] at h
      exact br_f b2 h
theorem x_floorMod8 (d : Nat) : S_floorMod8 (sc_wpM (d + 1)) := fun I D K x h => sc_open (d := d) rfl (z_floorMod8 (sc_wpM (d))  I D K x h)
def c_cl (x : Int32) : Int32 := if 0 < (if x < 3 then x else 3) then (if x < 3 then x else 3) else 0
def c_ln (pl g : Int32) (S : sc_I) : sc_I := sc_u S 4 2 (pl &&& 7).toNatClampNeg (c_cl (S 4 2 (pl &&& 7).toNatClampNeg + g))
abbrev S_learn1 (C : sc_CT) : Prop := ∀ (I : sc_I) (D : sc_R) (K : sc_RT) (I0 S : sc_I) (pl : Int32) (hA : c_AM I0 I D S) (h : ∀ I', c_AM I0 I' D (c_ln pl 1 S) → K none I' D), C 29 [.inr (2, 0), .inl pl, .inl 1] I D K
theorem z_learn1 (C : sc_CT) (c1 : S_floorMod8 C) (c2 : S_min C) (c3 : S_max C) (I : sc_I) (D : sc_R) (K : sc_RT) (I0 S : sc_I) (pl : Int32) (hA : c_AM I0 I D S) (h : ∀ I', c_AM I0 I' D (c_ln pl 1 S) → K none I' D) : sc_wp C K (sc_t 29) 5000 (sc_t 29) (sc_al 0 [.inr (2, 0), .inl pl, .inl 1]) [] I D := by
  refine c1 _ _ _ _ (And.intro (m_and7 _) (br_f (by decide) ?_))
  have e := hA.ar (j := 2) (by decide) (pl &&& 7).toNatClampNeg
  refine c2 _ _ _ _ _ (fun a => c3 _ _ _ _ _ (fun b => ?_) (fun b => ?_)) (fun a => c3 _ _ _ _ _ (fun b => ?_) (fun b => ?_))
  · exact And.intro (m_and7 _) (h _ (hA.p4 (by decide) rfl (by rw [e] at a b ⊢; unfold c_cl; rw [if_pos a, if_pos b])))
  · exact And.intro (m_and7 _) (h _ (hA.p4 (by decide) rfl (by rw [e] at a b; unfold c_cl; rw [if_pos a, if_neg b])))
  · exact And.intro (m_and7 _) (h _ (hA.p4 (by decide) rfl (by rw [e] at a; unfold c_cl; rw [if_neg a]; rfl)))
  · exact absurd (show (0 : Int32) < 3 by decide) b
theorem x_learn1 (d : Nat) : S_learn1 (sc_wpM (d + 2)) := fun I D K I0 S pl hA h => sc_open (d := d + 1) rfl (z_learn1 (sc_wpM (d + 1)) (x_floorMod8 (d + 0)) (x_min (d + 0)) (x_max (d + 0)) I D K I0 S pl hA h)
abbrev S_learn0 (C : sc_CT) : Prop := ∀ (I : sc_I) (D : sc_R) (K : sc_RT) (I0 S : sc_I) (pl : Int32) (hA : c_AM I0 I D S) (h : ∀ I', c_AM I0 I' D (c_ln pl (-1) S) → K none I' D), C 29 [.inr (2, 0), .inl pl, .inl 0] I D K
theorem z_learn0 (C : sc_CT) (c1 : S_floorMod8 C) (c2 : S_min C) (c3 : S_max C) (I : sc_I) (D : sc_R) (K : sc_RT) (I0 S : sc_I) (pl : Int32) (hA : c_AM I0 I D S) (h : ∀ I', c_AM I0 I' D (c_ln pl (-1) S) → K none I' D) : sc_wp C K (sc_t 29) 5000 (sc_t 29) (sc_al 0 [.inr (2, 0), .inl pl, .inl 0]) [] I D := by
  refine c1 _ _ _ _ (And.intro (m_and7 _) (br_t (by decide) ?_))
  have e := hA.ar (j := 2) (by decide) (pl &&& 7).toNatClampNeg
  refine c2 _ _ _ _ _ (fun a => c3 _ _ _ _ _ (fun b => ?_) (fun b => ?_)) (fun a => c3 _ _ _ _ _ (fun b => ?_) (fun b => ?_))
  · exact And.intro (m_and7 _) (h _ (hA.p4 (by decide) rfl (by rw [e] at a b ⊢; unfold c_cl; rw [if_pos a, if_pos b])))
  · exact And.intro (m_and7 _) (h _ (hA.p4 (by decide) rfl (by rw [e] at a b; unfold c_cl; rw [if_pos a, if_neg b])))
  · exact And.intro (m_and7 _) (h _ (hA.p4 (by decide) rfl (by rw [e] at a; unfold c_cl; rw [if_neg a]; rfl)))
  · exact absurd (show (0 : Int32) < 3 by decide) b
theorem x_learn0 (d : Nat) : S_learn0 (sc_wpM (d + 2)) := fun I D K I0 S pl hA h => sc_open (d := d + 1) rfl (z_learn0 (sc_wpM (d + 1)) (x_floorMod8 (d + 0)) (x_min (d + 0)) (x_max (d + 0)) I D K I0 S pl hA h)
def c_hold (nx : Int32) (S : sc_I) : sc_I := if nx = S 0 2 3 then S else sc_u (c_em2 (sc_u S 2 0 15 (S 2 0 15 + 1))) 2 0 7 nx
abbrev S_hold (C : sc_CT) : Prop := ∀ (I : sc_I) (D : sc_R) (K : sc_RT) (I0 S : sc_I) (nx : Int32) (hA : c_AM I0 I D S) (h : ∀ I', c_AM I0 I' D (c_hold nx S) → K none I' D), C 31 [.inr (2, 0), .inr (0, D 6 0 2), .inl nx] I D K
theorem z_hold (C : sc_CT) (c1 : S_empty2 C) (I : sc_I) (D : sc_R) (K : sc_RT) (I0 S : sc_I) (nx : Int32) (hA : c_AM I0 I D S) (h : ∀ I', c_AM I0 I' D (c_hold nx S) → K none I' D) : sc_wp C K (sc_t 31) 5000 (sc_t 31) (sc_al 0 [.inr (2, 0), .inr (0, D 6 0 2), .inl nx]) [] I D := by
  unfold c_hold at h
  have e := hA.fl (i := 2) (by decide) 3
  by_cases b : nx = S 0 2 3
  · rw [if_pos b] at h
    exact br_t (b.trans e.symm) (h _ hA)
  · rw [if_neg b] at h
    refine br_f (fun z => b (Eq.trans z e)) (c1 _ _ _ I0 _ (hA.p2 (congrArg (· + 1) (hA.sc 15))) (fun I' h' => h _ (h'.p2 rfl)))
theorem x_hold (d : Nat) : S_hold (sc_wpM (d + 2)) := fun I D K I0 S nx hA h => sc_open (d := d + 1) rfl (z_hold (sc_wpM (d + 1)) (x_empty2 (d + 0)) I D K I0 S nx hA h)
/-- what finishWork does to the flight in REACHED that has no fault yet -/
def c_fs (S : sc_I) : Int32 := c_hd S (S 1 2 2)
def c_ft (S : sc_I) : Int32 := c_hd S (S 1 2 3)
def c_f1 (S : sc_I) : sc_I := sc_u S 0 2 5 (c_fo (S 1 2 0) (S 1 2 4) (c_fs S) (c_ft S))
def c_f2 (S : sc_I) : sc_I := sc_u (sc_u (c_f1 S) 0 2 7 (c_vo (S 1 2 0) (S 1 2 4) (S 0 2 2) (c_fs S) (c_ft S))) 0 2 6 (if c_td (S 1 2 0) then c_fs S + S 1 2 4 else 0)
def c_f3 (S : sc_I) : sc_I := if c_br (S 1 2 0) then c_ln (S 0 2 2) (if c_go (S 1 2 0) (c_fs S) (c_ft S) then 1 else -1) (c_f2 S) else c_f2 S
def c_nx (S : sc_I) : Int32 := if c_go (S 1 2 0) (c_fs S) (c_ft S) then c_tg (S 1 2 0) (S 1 2 4) (S 0 2 2) (c_fs S) else S 0 2 2 + 1
def c_fin (S : sc_I) : sc_I := if S 0 2 5 = 0 then (if c_fo (S 1 2 0) (S 1 2 4) (c_fs S) (c_ft S) = 0 then c_hold (c_nx S) (c_f3 S) else c_f1 S) else S
theorem c_fo_c {a a' b b' s t : Int32} (h1 : a = a') (h2 : b = b') : c_fo a b s t = c_fo a' b' s t := by rw [h1, h2]
theorem c_vo_c {a a' b b' p p' s t : Int32} (h1 : a = a') (h2 : b = b') (h3 : p = p') : c_vo a b p s t = c_vo a' b' p' s t := by rw [h1, h2, h3]
abbrev S_finish (C : sc_CT) : Prop := ∀ (I : sc_I) (D : sc_R) (K : sc_RT) (I0 S : sc_I) (hA : c_AM I0 I D S) (hs : vp_in (S 1 2 2) 16) (ht : vp_in (S 1 2 3) 16) (h : ∀ I', c_AM I0 I' D (c_fin S) → K none I' D), C 32 [.inr (2, 0), .inr (0, D 6 0 2)] I D K
set_option maxRecDepth 100000 in
set_option maxHeartbeats 4000000 in
theorem z_finish (C : sc_CT) (c1 : S_handedOn C) (c2 : S_faultOf C) (c3 : S_valueOf C) (c4 : S_touchesData C) (c5 : S_goesElse C) (c6 : S_isBranch C) (c7 : S_learn1 C) (c8 : S_learn0 C) (c9 : S_target C) (c10 : S_hold C) (I : sc_I) (D : sc_R) (K : sc_RT) (I0 S : sc_I) (hA : c_AM I0 I D S) (hs : vp_in (S 1 2 2) 16) (ht : vp_in (S 1 2 3) 16) (h : ∀ I', c_AM I0 I' D (c_fin S) → K none I' D) : sc_wp C K (sc_t 32) 5000 (sc_t 32) (sc_al 0 [.inr (2, 0), .inr (0, D 6 0 2)]) [] I D := by
  have e2 := hA.ir (i := 2) (by decide) 2
  have e3 := hA.ir (i := 2) (by decide) 3
  refine c1 _ _ _ I0 S _ hA (by rw [e2]; exact hs) ?_
  refine c1 _ _ _ I0 S _ hA (by rw [e3]; exact ht) ?_
  rw [e2, e3]
  have ef := hA.fl (i := 2) (by decide) 5
  unfold c_fin at h
  by_cases hz : S 0 2 5 = 0
  · rw [if_pos hz] at h
    refine br_t (ef.trans hz) (c2 _ _ _ _ _ _ ?_)
    have A1 := hA.p0 (i := 2) (s := 5) (by decide) (c_fo_c (s := (c_hd S (S 1 2 2))) (t := (c_hd S (S 1 2 3))) (hA.ir (i := 2) (by decide) 0) (hA.ir (i := 2) (by decide) 4))
    by_cases hy : c_fo (S 1 2 0) (S 1 2 4) (c_fs S) (c_ft S) = 0
    · rw [if_pos hy] at h
      refine br_t ((A1.fl (i := 2) (by decide) 5).trans hy) (c3 _ _ _ _ _ _ ?_)
      have A2 := A1.p0 (i := 2) (s := 7) (by decide) (c_vo_c (s := (c_hd S (S 1 2 2))) (t := (c_hd S (S 1 2 3))) (A1.ir (i := 2) (by decide) 0) (A1.ir (i := 2) (by decide) 4) (A1.fl (i := 2) (by decide) 2))
      have f0 : _ = S 1 2 0 := A2.ir (i := 2) (by decide) 0
      have f4 : _ = S 1 2 4 := A2.ir (i := 2) (by decide) 4
      refine c4 _ _ _ _ (fun d1 => br_f (by decide) ?_) (fun d1 => br_t (by decide) ?_)
      · have hd : c_td (S 1 2 0) := by rw [← f0]; exact d1
        have A3 : c_AM I0 _ D (c_f2 S) := A2.p0 (i := 2) (s := 6) (by decide) ((congrArg (fun z => c_hd S (S 1 2 2) + z) f4).trans (if_pos (c := c_td (S 1 2 0)) hd).symm)
        refine c5 _ _ _ _ _ _ (fun g => ?_) (fun g => ?_)
        · have e00 : _ = S 1 2 0 := A3.ir (i := 2) (by decide) 0
          have hg : c_go (S 1 2 0) (c_fs S) (c_ft S) := by rw [← e00]; exact g
          have e0 : _ = S 1 2 0 := A3.ir (i := 2) (by decide) 0
          have ep : _ = S 0 2 2 := A3.fl (i := 2) (by decide) 2
          refine c6 _ _ _ _ (fun b => br_f (by decide) ?_) (fun b => br_t (by decide) ?_)
          · have hb : c_br (S 1 2 0) := by rw [← e0]; exact b
            have ef3 : c_f3 S = c_ln (S 0 2 2) 1 (c_f2 S) := by
              unfold c_f3
              rw [if_pos hb, if_pos hg]
            refine c7 _ _ _ I0 (c_f2 S) _ A3 (fun I4 h4 => ?_)
            have h4 : c_AM I0 I4 D (c_ln (S 0 2 2) 1 (c_f2 S)) := by rw [← ep]; exact h4
            have n0 : _ = S 1 2 0 := h4.ir (i := 2) (by decide) 0
            have n4 : _ = S 1 2 4 := h4.ir (i := 2) (by decide) 4
            have np : _ = S 0 2 2 := h4.fl (i := 2) (by decide) 2
            exact br_f (by decide) (c9 _ _ _ _ _ (c10 _ _ _ I0 (c_f3 S) _ (by rw [ef3]; exact h4) (fun I9 h9 => h _ (by rw [show c_nx S = c_tg (S 1 2 0) (S 1 2 4) (S 0 2 2) (c_fs S) from if_pos hg, ← n0, ← n4, ← np]; exact h9))))
          · have hb : ¬ c_br (S 1 2 0) := by rw [← e0]; exact b
            have ef3 : c_f3 S = c_f2 S := by
              unfold c_f3
              rw [if_neg hb]
            have n0 : _ = S 1 2 0 := A3.ir (i := 2) (by decide) 0
            have n4 : _ = S 1 2 4 := A3.ir (i := 2) (by decide) 4
            have np : _ = S 0 2 2 := A3.fl (i := 2) (by decide) 2
            exact br_f (by decide) (c9 _ _ _ _ _ (c10 _ _ _ I0 (c_f3 S) _ (by rw [ef3]; exact A3) (fun I9 h9 => h _ (by rw [show c_nx S = c_tg (S 1 2 0) (S 1 2 4) (S 0 2 2) (c_fs S) from if_pos hg, ← n0, ← n4, ← np]; exact h9))))
        · have e00 : _ = S 1 2 0 := A3.ir (i := 2) (by decide) 0
          have hg : ¬ c_go (S 1 2 0) (c_fs S) (c_ft S) := by rw [← e00]; exact g
          have e0 : _ = S 1 2 0 := A3.ir (i := 2) (by decide) 0
          have ep : _ = S 0 2 2 := A3.fl (i := 2) (by decide) 2
          refine c6 _ _ _ _ (fun b => br_f (by decide) ?_) (fun b => br_t (by decide) ?_)
          · have hb : c_br (S 1 2 0) := by rw [← e0]; exact b
            have ef3 : c_f3 S = c_ln (S 0 2 2) (-1) (c_f2 S) := by
              unfold c_f3
              rw [if_pos hb, if_neg hg]
            refine c8 _ _ _ I0 (c_f2 S) _ A3 (fun I4 h4 => ?_)
            have h4 : c_AM I0 I4 D (c_ln (S 0 2 2) (-1) (c_f2 S)) := by rw [← ep]; exact h4
            have n0 : _ = S 1 2 0 := h4.ir (i := 2) (by decide) 0
            have n4 : _ = S 1 2 4 := h4.ir (i := 2) (by decide) 4
            have np : _ = S 0 2 2 := h4.fl (i := 2) (by decide) 2
            exact br_t (by decide) (c10 _ _ _ I0 (c_f3 S) _ (by rw [ef3]; exact h4) (fun I9 h9 => h _ (by rw [show c_nx S = S 0 2 2 + 1 from if_neg hg, ← np]; exact h9)))
          · have hb : ¬ c_br (S 1 2 0) := by rw [← e0]; exact b
            have ef3 : c_f3 S = c_f2 S := by
              unfold c_f3
              rw [if_neg hb]
            have n0 : _ = S 1 2 0 := A3.ir (i := 2) (by decide) 0
            have n4 : _ = S 1 2 4 := A3.ir (i := 2) (by decide) 4
            have np : _ = S 0 2 2 := A3.fl (i := 2) (by decide) 2
            exact br_t (by decide) (c10 _ _ _ I0 (c_f3 S) _ (by rw [ef3]; exact A3) (fun I9 h9 => h _ (by rw [show c_nx S = S 0 2 2 + 1 from if_neg hg, ← np]; exact h9)))
      · have hd : ¬ c_td (S 1 2 0) := by rw [← f0]; exact d1
        have A3 : c_AM I0 _ D (c_f2 S) := A2.p0 (i := 2) (s := 6) (by decide) (if_neg (c := c_td (S 1 2 0)) hd).symm
        refine c5 _ _ _ _ _ _ (fun g => ?_) (fun g => ?_)
        · have e00 : _ = S 1 2 0 := A3.ir (i := 2) (by decide) 0
          have hg : c_go (S 1 2 0) (c_fs S) (c_ft S) := by rw [← e00]; exact g
          have e0 : _ = S 1 2 0 := A3.ir (i := 2) (by decide) 0
          have ep : _ = S 0 2 2 := A3.fl (i := 2) (by decide) 2
          refine c6 _ _ _ _ (fun b => br_f (by decide) ?_) (fun b => br_t (by decide) ?_)
          · have hb : c_br (S 1 2 0) := by rw [← e0]; exact b
            have ef3 : c_f3 S = c_ln (S 0 2 2) 1 (c_f2 S) := by
              unfold c_f3
              rw [if_pos hb, if_pos hg]
            refine c7 _ _ _ I0 (c_f2 S) _ A3 (fun I4 h4 => ?_)
            have h4 : c_AM I0 I4 D (c_ln (S 0 2 2) 1 (c_f2 S)) := by rw [← ep]; exact h4
            have n0 : _ = S 1 2 0 := h4.ir (i := 2) (by decide) 0
            have n4 : _ = S 1 2 4 := h4.ir (i := 2) (by decide) 4
            have np : _ = S 0 2 2 := h4.fl (i := 2) (by decide) 2
            exact br_f (by decide) (c9 _ _ _ _ _ (c10 _ _ _ I0 (c_f3 S) _ (by rw [ef3]; exact h4) (fun I9 h9 => h _ (by rw [show c_nx S = c_tg (S 1 2 0) (S 1 2 4) (S 0 2 2) (c_fs S) from if_pos hg, ← n0, ← n4, ← np]; exact h9))))
          · have hb : ¬ c_br (S 1 2 0) := by rw [← e0]; exact b
            have ef3 : c_f3 S = c_f2 S := by
              unfold c_f3
              rw [if_neg hb]
            have n0 : _ = S 1 2 0 := A3.ir (i := 2) (by decide) 0
            have n4 : _ = S 1 2 4 := A3.ir (i := 2) (by decide) 4
            have np : _ = S 0 2 2 := A3.fl (i := 2) (by decide) 2
            exact br_f (by decide) (c9 _ _ _ _ _ (c10 _ _ _ I0 (c_f3 S) _ (by rw [ef3]; exact A3) (fun I9 h9 => h _ (by rw [show c_nx S = c_tg (S 1 2 0) (S 1 2 4) (S 0 2 2) (c_fs S) from if_pos hg, ← n0, ← n4, ← np]; exact h9))))
        · have e00 : _ = S 1 2 0 := A3.ir (i := 2) (by decide) 0
          have hg : ¬ c_go (S 1 2 0) (c_fs S) (c_ft S) := by rw [← e00]; exact g
          have e0 : _ = S 1 2 0 := A3.ir (i := 2) (by decide) 0
          have ep : _ = S 0 2 2 := A3.fl (i := 2) (by decide) 2
          refine c6 _ _ _ _ (fun b => br_f (by decide) ?_) (fun b => br_t (by decide) ?_)
          · have hb : c_br (S 1 2 0) := by rw [← e0]; exact b
            have ef3 : c_f3 S = c_ln (S 0 2 2) (-1) (c_f2 S) := by
              unfold c_f3
              rw [if_pos hb, if_neg hg]
            refine c8 _ _ _ I0 (c_f2 S) _ A3 (fun I4 h4 => ?_)
            have h4 : c_AM I0 I4 D (c_ln (S 0 2 2) (-1) (c_f2 S)) := by rw [← ep]; exact h4
            have n0 : _ = S 1 2 0 := h4.ir (i := 2) (by decide) 0
            have n4 : _ = S 1 2 4 := h4.ir (i := 2) (by decide) 4
            have np : _ = S 0 2 2 := h4.fl (i := 2) (by decide) 2
            exact br_t (by decide) (c10 _ _ _ I0 (c_f3 S) _ (by rw [ef3]; exact h4) (fun I9 h9 => h _ (by rw [show c_nx S = S 0 2 2 + 1 from if_neg hg, ← np]; exact h9)))
          · have hb : ¬ c_br (S 1 2 0) := by rw [← e0]; exact b
            have ef3 : c_f3 S = c_f2 S := by
              unfold c_f3
              rw [if_neg hb]
            have n0 : _ = S 1 2 0 := A3.ir (i := 2) (by decide) 0
            have n4 : _ = S 1 2 4 := A3.ir (i := 2) (by decide) 4
            have np : _ = S 0 2 2 := A3.fl (i := 2) (by decide) 2
            exact br_t (by decide) (c10 _ _ _ I0 (c_f3 S) _ (by rw [ef3]; exact A3) (fun I9 h9 => h _ (by rw [show c_nx S = S 0 2 2 + 1 from if_neg hg, ← np]; exact h9)))
    · rw [if_neg hy] at h
      exact br_f (fun z => hy ((A1.fl (i := 2) (by decide) 5).symm.trans z)) (h _ A1)
  · rw [if_neg hz] at h
    exact br_f (fun z => hz (ef.symm.trans z)) (br_f (fun z => hz (ef.symm.trans z)) (h _ hA))
theorem x_finish (d : Nat) : S_finish (sc_wpM (d + 4)) := fun I D K I0 S hA hs ht h => sc_open (d := d + 3) rfl (z_finish (sc_wpM (d + 3)) (x_handedOn (d + 0)) (x_faultOf (d + 1)) (x_valueOf (d + 2)) (x_touchesData (d + 2)) (x_goesElse (d + 2)) (x_isBranch (d + 2)) (x_learn1 (d + 1)) (x_learn0 (d + 1)) (x_target (d + 2)) (x_hold (d + 1)) I D K I0 S hA hs ht h)
end
section
def c_rch (S : sc_I) : sc_I := if S 0 2 0 = 0 then S else if c_nl S then sc_u S 2 0 14 (S 2 0 14 + 1) else if sc_wc (S 1 2 0) ≤ S 0 2 4 + 1 then c_mv 2 (c_fin (sc_u S 0 2 4 (S 0 2 4 + 1))) else sc_u (sc_u S 0 2 4 (S 0 2 4 + 1)) 2 0 14 (S 2 0 14 + 1)
abbrev S_workIn (C : sc_CT) : Prop := ∀ (I : sc_I) (D : sc_R) (K : sc_RT) (I0 S : sc_I) (hA : c_AM I0 I D S) (hs : vp_in (S 1 2 2) 16) (ht : vp_in (S 1 2 3) 16) (h : ∀ I' D', c_AM I0 I' D' (c_rch S) → K none I' D'), C 33 [.inr (2, 0), .inr (0, D 6 0 2)] I D K
theorem z_workIn (C : sc_CT) (c1 : S_needsLoad C) (c2 : S_workCycles C) (c3 : S_finish C) (c4 : S_move2 C) (I : sc_I) (D : sc_R) (K : sc_RT) (I0 S : sc_I) (hA : c_AM I0 I D S) (hs : vp_in (S 1 2 2) 16) (ht : vp_in (S 1 2 3) 16) (h : ∀ I' D', c_AM I0 I' D' (c_rch S) → K none I' D') : sc_wp C K (sc_t 33) 5000 (sc_t 33) (sc_al 0 [.inr (2, 0), .inr (0, D 6 0 2)]) [] I D := by
  unfold c_rch at h
  have e0 := hA.fl (i := 2) (by decide) 0
  by_cases h0 : S 0 2 0 = 0
  · rw [if_pos h0] at h
    exact br_t (e0.trans h0) (h _ _ hA)
  rw [if_neg h0] at h
  refine br_f (fun z => h0 (e0.symm.trans z)) ?_
  refine c1 _ _ _ I0 S hA (fun a => br_f (by decide) ?_) (fun a => br_t (by decide) ?_)
  · rw [if_pos a] at h
    exact h _ _ (hA.p2 (congrArg (· + 1) (hA.sc 14)))
  · rw [if_neg a] at h
    have A1 := hA.p0 (i := 2) (s := 4) (by decide) (congrArg (· + 1) (hA.fl (i := 2) (by decide) 4))
    have w1 : _ = S 1 2 0 := A1.ir (i := 2) (by decide) 0
    have w2 : _ = S 0 2 4 + 1 := A1.fl (i := 2) (by decide) 4
    refine c2 _ _ _ _ ?_
    by_cases b : sc_wc (S 1 2 0) ≤ S 0 2 4 + 1
    · rw [if_pos b] at h
      refine br_t (by rw [w1, w2]; exact b) ?_
      exact c3 _ _ _ I0 _ A1 hs ht (fun I2 A2 => c4 _ _ _ I0 _ A2 (fun D' A3 => h _ _ A3))
    · rw [if_neg b] at h
      refine br_f (by rw [w1, w2]; exact b) ?_
      exact h _ _ (A1.p2 (congrArg (· + 1) (hA.sc 14)))
theorem x_workIn (d : Nat) : S_workIn (sc_wpM (d + 5)) := fun I D K I0 S hA hs ht h => sc_open (d := d + 4) rfl (z_workIn (sc_wpM (d + 4)) (x_needsLoad (d + 0)) (x_workCycles (d + 3)) (x_finish (d + 0)) (x_move2 (d + 3)) I D K I0 S hA hs ht h)
def c_gn (S : sc_I) (op n pl : Int32) : Int32 := if op = 15 ∨ (c_br op ∧ ¬ S 4 2 (pl &&& 7).toNatClampNeg < 2) then pl + n else pl + 1
abbrev S_guess (C : sc_CT) : Prop := ∀ (I : sc_I) (D : sc_R) (K : sc_RT) (I0 S : sc_I) (a : Nat) (pl : Int32) (hA : c_AM I0 I D S) (h : K (some (.inl (c_gn S (I 1 a 0) (I 1 a 4) pl))) I D), C 34 [.inr (2, 0), .inr (1, a), .inl pl] I D K
theorem z_guess (C : sc_CT) (c1 : S_isBranch C) (c2 : S_floorMod8 C) (I : sc_I) (D : sc_R) (K : sc_RT) (I0 S : sc_I) (a : Nat) (pl : Int32) (hA : c_AM I0 I D S) (h : K (some (.inl (c_gn S (I 1 a 0) (I 1 a 4) pl))) I D) : sc_wp C K (sc_t 34) 5000 (sc_t 34) (sc_al 0 [.inr (2, 0), .inr (1, a), .inl pl]) [] I D := by
  unfold c_gn at h
  have e := hA.ar (j := 2) (by decide) (pl &&& 7).toNatClampNeg
  by_cases b1 : I 1 a 0 = 15
  · rw [if_pos (Or.inl b1)] at h
    exact br_t b1 (br_f (by decide) h)
  refine br_f b1 (c1 _ _ _ _ (fun b2 => br_f (by decide) (c2 _ _ _ _ (And.intro (m_and7 _) ?_))) (fun b2 => br_t (by decide) ?_))
  · by_cases b3 : S 4 2 (pl &&& 7).toNatClampNeg < 2
    · rw [if_neg (fun z => z.elim b1 (fun w => w.2 b3))] at h
      exact br_t (by rw [e]; exact b3) (br_t (by decide) h)
    · rw [if_pos (Or.inr ⟨b2, b3⟩)] at h
      exact br_f (by rw [e]; exact b3) (br_f (by decide) h)
  · rw [if_neg (fun z => z.elim b1 (fun w => b2 w.1))] at h
    exact br_t (by decide) h
theorem x_guess (d : Nat) : S_guess (sc_wpM (d + 2)) := fun I D K I0 S a pl hA h => sc_open (d := d + 1) rfl (z_guess (sc_wpM (d + 1)) (x_isBranch (d + 0)) (x_floorMod8 (d + 0)) I D K I0 S a pl hA h)
def c_fw (p : Nat) (fl : Int32) (S : sc_I) : sc_I := sc_u (sc_u (sc_u (sc_u (c_in p (sc_u (sc_u S 0 0 0 1) 0 0 2 (S 2 0 7))) 0 0 5 fl) 0 0 4 0) 0 0 6 0) 0 0 7 0
def c_fx (p : Nat) (fl : Int32) (S : sc_I) : sc_I := sc_u (sc_u (c_fw p fl S) 0 0 3 (c_gn S (S 7 p 0) (S 7 p 4) (S 2 0 7))) 2 0 7 (c_gn S (S 7 p 0) (S 7 p 4) (S 2 0 7))
abbrev c_fd (w : Int32) : Prop := ¬ w < 0 ∧ ¬ 64 ≤ w
def c_ft0 (S : sc_I) : sc_I := if S 0 0 0 = 0 then (if c_fd (S 2 0 7) then c_fx (S 2 0 7).toNatClampNeg 0 S else c_fx 64 1 S) else S
theorem c_fd_in {w : Int32} (h : c_fd w) : vp_in w 64 := by
  have a : (0 : Int) ≤ w.toInt := Int.not_lt.mp (fun z => h.1 (Int32.lt_iff_toInt_lt.mpr z))
  have b : w.toInt < (64 : Int) := Int.not_le.mp (fun z => h.2 (Int32.le_iff_toInt_le.mpr z))
  exact vp_in_iff.mpr ⟨a, b⟩
theorem c_gn_c {S : sc_I} {a a' b b' p p' : Int32} (h1 : a = a') (h2 : b = b') (h3 : p = p') : c_gn S a b p = c_gn S a' b' p' := by rw [h1, h2, h3]
abbrev S_fetchIf (C : sc_CT) : Prop := ∀ (I : sc_I) (D : sc_R) (K : sc_RT) (I0 S : sc_I) (hA : c_AM I0 I D S) (h : ∀ I' D', c_AM I0 I' D' (c_ft0 S) → K none I' D'), C 35 [.inr (2, 0), .inr (0, D 6 0 0)] I D K
set_option maxRecDepth 100000 in
set_option maxHeartbeats 2000000 in
theorem z_fetchIf (C : sc_CT) (c1 : S_guess C) (I : sc_I) (D : sc_R) (K : sc_RT) (I0 S : sc_I) (hA : c_AM I0 I D S) (h : ∀ I' D', c_AM I0 I' D' (c_ft0 S) → K none I' D') : sc_wp C K (sc_t 35) 5000 (sc_t 35) (sc_al 0 [.inr (2, 0), .inr (0, D 6 0 0)]) [] I D := by
  unfold c_ft0 at h
  have e0 := hA.fl (i := 0) (by decide) 0
  have ew := hA.sc 7
  by_cases h0 : S 0 0 0 = 0
  · rw [if_pos h0] at h
    refine br_t (e0.trans h0) ?_
    have A1 := (hA.p0 (i := 0) (s := 0) (v := 1) (by decide) rfl).p0 (i := 0) (s := 2) (by decide) ew
    by_cases hf : c_fd (S 2 0 7)
    · rw [if_pos hf] at h
      have hv : vp_in (I 2 0 7) 64 := by rw [ew]; exact c_fd_in hf
      have hn : (I 2 0 7).toNatClampNeg < 64 := sc_cln hv
      have A2 := A1.ins (a := D 7 0 (I 2 0 7).toNatClampNeg) (p := (S 2 0 7).toNatClampNeg) (by rw [← ew]; exact hA.1.2.2.2.1 _ hn)
      have A3 := (((A2.p0 (i := 0) (s := 5) (v := 0) (by decide) rfl).p0 (i := 0) (s := 4) (v := 0) (by decide) rfl).p0 (i := 0) (s := 6) (v := 0) (by decide) rfl).p0 (i := 0) (s := 7) (v := 0) (by decide) rfl
      have q0 : _ = S 7 (S 2 0 7).toNatClampNeg 0 := A3.ir (i := 0) (by decide) 0
      have q4 : _ = S 7 (S 2 0 7).toNatClampNeg 4 := A3.ir (i := 0) (by decide) 4
      refine br_f (by rw [ew]; exact hf.1) (br_f (by rw [ew]; exact hf.2) (And.intro (Or.inr rfl) (br_f (by decide) (And.intro hv (br_f (by decide) ?_)))))
      refine c1 _ _ _ I0 (c_fw (S 2 0 7).toNatClampNeg 0 S) _ _ A3 ?_
      have A4 := A3.p0 (i := 0) (s := 3) (by decide) (c_gn_c (S := c_fw (S 2 0 7).toNatClampNeg 0 S) q0 q4 ew)
      exact h _ _ (A4.p2 (A4.fl (i := 0) (by decide) 3))
    · rw [if_neg hf] at h
      have A2 := A1.ins (a := D 2 0 0) (p := 64) hA.1.2.2.2.2.1
      have A3 := (((A2.p0 (i := 0) (s := 5) (v := 1) (by decide) rfl).p0 (i := 0) (s := 4) (v := 0) (by decide) rfl).p0 (i := 0) (s := 6) (v := 0) (by decide) rfl).p0 (i := 0) (s := 7) (v := 0) (by decide) rfl
      have q0 : _ = S 7 64 0 := A3.ir (i := 0) (by decide) 0
      have q4 : _ = S 7 64 4 := A3.ir (i := 0) (by decide) 4
      have A4 := A3.p0 (i := 0) (s := 3) (by decide) (c_gn_c (S := c_fw 64 1 S) q0 q4 ew)
      by_cases hl : S 2 0 7 < 0
      · refine br_t (by rw [ew]; exact hl) (And.intro (Or.inr rfl) (br_t (by decide) (br_t (by decide) (c1 _ _ _ I0 (c_fw 64 1 S) _ _ A3 ?_))))
        exact h _ _ (A4.p2 (A4.fl (i := 0) (by decide) 3))
      · have hg : 64 ≤ S 2 0 7 := Classical.byContradiction (fun z => hf ⟨hl, z⟩)
        refine br_f (by rw [ew]; exact hl) (br_t (by rw [ew]; exact hg) (And.intro (Or.inr rfl) (br_t (by decide) (br_t (by decide) (c1 _ _ _ I0 (c_fw 64 1 S) _ _ A3 ?_)))))
        exact h _ _ (A4.p2 (A4.fl (i := 0) (by decide) 3))
  · rw [if_neg h0] at h
    exact br_f (fun z => h0 (e0.symm.trans z)) (h _ _ hA)
theorem x_fetchIf (d : Nat) : S_fetchIf (sc_wpM (d + 3)) := fun I D K I0 S hA h => sc_open (d := d + 2) rfl (z_fetchIf (sc_wpM (d + 2)) (x_guess (d + 0)) I D K I0 S hA h)
def c_tick (S : sc_I) : sc_I := sc_u S 2 0 12 (S 2 0 12 + 1)
def c_cyc (S : sc_I) : sc_I := if c_end (c_tick S) then c_lv (c_tick S) else c_ft0 (c_mv 0 (c_mv 1 (c_rch (c_mem (c_lv (c_tick S))))))
/-- what a cycle of the class needs of its state -/
def c_ok (S : sc_I) : Prop := vp_in (S 1 4 1) 16 ∧ vp_in (c_rm (S 2 0 13)) 16 ∧ ((c_do (c_lv (c_tick S)) 3 11 ∨ c_do (c_lv (c_tick S)) 3 12) → vp_in (c_lv (c_tick S) 0 3 6) 32) ∧ vp_in (c_mem (c_lv (c_tick S)) 1 2 2) 16 ∧ vp_in (c_mem (c_lv (c_tick S)) 1 2 3) 16
abbrev S_runCycle (C : sc_CT) : Prop := ∀ (I : sc_I) (D : sc_R) (K : sc_RT) (I0 S : sc_I) (hA : c_AM I0 I D S) (ho : c_ok S) (h : ∀ I' D', c_AM I0 I' D' (c_cyc S) → K none I' D'), C 36 [.inr (2, 0)] I D K
theorem z_runCycle (C : sc_CT) (c1 : S_leaveEnds C) (c2 : S_passMemory C) (c3 : S_workIn C) (c4 : S_move1 C) (c5 : S_move0 C) (c6 : S_fetchIf C) (I : sc_I) (D : sc_R) (K : sc_RT) (I0 S : sc_I) (hA : c_AM I0 I D S) (ho : c_ok S) (h : ∀ I' D', c_AM I0 I' D' (c_cyc S) → K none I' D') : sc_wp C K (sc_t 36) 5000 (sc_t 36) (sc_al 0 [.inr (2, 0)]) [] I D := by
  obtain ⟨o1, o2, o3, o4, o5⟩ := ho
  unfold c_cyc at h
  refine And.intro (sc_vi (by decide)) (c1 _ _ _ I0 (c_tick S) (hA.p2 (congrArg (· + 1) (hA.sc 12))) o1 o2 (fun a I1 A1 => br_f (by decide) ?_) (fun a I1 A1 => br_t (by decide) ?_))
  · rw [if_pos a] at h
    exact h _ _ A1
  · rw [if_neg a] at h
    refine And.intro (sc_vi (by decide)) (c2 _ _ _ I0 _ A1 o3 (fun I2 D2 A2 => And.intro (sc_vi (by decide)) (c3 _ _ _ I0 _ A2 o4 o5 (fun I3 D3 A3 => c4 _ _ _ I0 _ A3 (fun D4 A4 => c5 _ _ _ I0 _ A4 (fun D5 A5 => And.intro (sc_vi (by decide)) (c6 _ _ _ I0 _ A5 (fun I6 D6 A6 => ?_))))))))
    exact h _ _ A6
theorem x_runCycle (d : Nat) : S_runCycle (sc_wpM (d + 6)) := fun I D K I0 S hA ho h => sc_open (d := d + 5) rfl (z_runCycle (sc_wpM (d + 5)) (x_leaveEnds (d + 1)) (x_passMemory (d + 3)) (x_workIn (d + 0)) (x_move1 (d + 4)) (x_move0 (d + 4)) (x_fetchIf (d + 2)) I D K I0 S hA ho h)
abbrev S_checkArg (C : sc_CT) : Prop := ∀ (I : sc_I) (D : sc_R) (K : sc_RT) (v lo hi : Int32) (h0 : lo ≤ v ∧ v ≤ hi) (h : K none I D), C 9 [.inl v, .inl lo, .inl hi] I D K
theorem z_checkArg (C : sc_CT)  (I : sc_I) (D : sc_R) (K : sc_RT) (v lo hi : Int32) (h0 : lo ≤ v ∧ v ≤ hi) (h : K none I D) : sc_wp C K (sc_t 9) 5000 (sc_t 9) (sc_al 0 [.inl v, .inl lo, .inl hi]) [] I D := by
  exact br_f (by have := h0.1; grind) (br_t h0.2 h)
theorem x_checkArg (d : Nat) : S_checkArg (sc_wpM (d + 1)) := fun I D K v lo hi h0 h => sc_open (d := d) rfl (z_checkArg (sc_wpM (d))  I D K v lo hi h0 h)
abbrev S_checkIdx (C : sc_CT) : Prop := ∀ (I : sc_I) (D : sc_R) (K : sc_RT) (v n : Int32) (h0 : 0 ≤ v ∧ v < n) (h : K none I D), C 8 [.inl v, .inl n] I D K
theorem z_checkIdx (C : sc_CT)  (I : sc_I) (D : sc_R) (K : sc_RT) (v n : Int32) (h0 : 0 ≤ v ∧ v < n) (h : K none I D) : sc_wp C K (sc_t 8) 5000 (sc_t 8) (sc_al 0 [.inl v, .inl n]) [] I D := by
  exact br_f (by have := h0.1; grind) (br_t h0.2 h)
theorem x_checkIdx (d : Nat) : S_checkIdx (sc_wpM (d + 1)) := fun I D K v n h0 h => sc_open (d := d) rfl (z_checkIdx (sc_wpM (d))  I D K v n h0 h)
def c_run : Nat → sc_I → sc_I
  | 0, S => S
  | n + 1, S => if S 2 0 11 = 0 then c_run n (c_cyc S) else S
def c_oks : Nat → sc_I → Prop
  | 0, _ => True
  | n + 1, S => S 2 0 11 = 0 → c_ok S ∧ c_oks n (c_cyc S)
abbrev S_cycles (C : sc_CT) : Prop := ∀ (I : sc_I) (D : sc_R) (K : sc_RT) (I0 S : sc_I) (n : Int32) (hA : c_AM I0 I D S) (ha : 1 ≤ n ∧ n ≤ 300) (ho : c_oks n.toNatClampNeg S) (h : ∀ I' D', c_AM I0 I' D' (c_run n.toNatClampNeg S) → K (some (.inl (c_run n.toNatClampNeg S 2 0 13 - S 2 0 13))) I' D'), C 37 [.inr (2, 0), .inl n] I D K
set_option maxRecDepth 100000 in
set_option maxHeartbeats 2000000 in
theorem z_cycles (C : sc_CT) (c1 : S_checkArg C) (c2 : S_runCycle C) (I : sc_I) (D : sc_R) (K : sc_RT) (I0 S : sc_I) (n : Int32) (hA : c_AM I0 I D S) (ha : 1 ≤ n ∧ n ≤ 300) (ho : c_oks n.toNatClampNeg S) (h : ∀ I' D', c_AM I0 I' D' (c_run n.toNatClampNeg S) → K (some (.inl (c_run n.toNatClampNeg S 2 0 13 - S 2 0 13))) I' D') : sc_wp C K (sc_t 37) 5000 (sc_t 37) (sc_al 0 [.inr (2, 0), .inl n]) [] I D := by
  refine c1 _ _ _ _ _ _ ha ?_
  have hn : n.toInt = (n.toNatClampNeg : Int) ∧ n.toNatClampNeg ≤ 300 := by
    have e1 := Int32.le_iff_toInt_le.mp ha.1
    have e2 := Int32.le_iff_toInt_le.mp ha.2
    rw [show (1 : Int32).toInt = 1 from rfl] at e1
    rw [show (300 : Int32).toInt = 300 from rfl] at e2
    have e3 : n.toNatClampNeg = n.toInt.toNat := rfl
    omega
  have L : ∀ (j : Nat) (f : Nat) (i : Nat) (x : Int32) (J : sc_I) (E : sc_R) (T : sc_I), 14 * j + 12 ≤ f → x = nI i → i + j = n.toNatClampNeg → c_AM I0 J E T → c_oks j T → (∀ I' D', c_AM I0 I' D' (c_run j T) → K (some (.inl (c_run j T 2 0 13 - S 2 0 13))) I' D') → sc_wp C K (sc_t 37) f (sc_sf (sc_t 37) 15) [(3, .inl x), (2, .inl (I 2 0 13)), (0, .inr (2, 0)), (0 + 1, .inl n)] [] J E := by
    intro j
    induction j with
    | zero =>
      intro f i x J E T hf hx hi hB _ h
      obtain ⟨f, rfl⟩ : ∃ f', f = f' + 10 := ⟨f - 10, by omega⟩
      have : n ≤ x := by
        rw [hx, Int32.le_iff_toInt_le, nI_toInt (by omega)]; omega
      have h := h _ _ hB
      refine br_t this ?_
      have e1 : T 2 0 13 = J 2 0 13 := (hB.sc 13).symm
      have e2 : S 2 0 13 = I 2 0 13 := (hA.sc 13).symm
      unfold c_run at h
      rw [e1, e2] at h
      exact h
    | succ j ih =>
      intro f i x J E T hf hx hi hB ho h
      have hlt : ¬ n ≤ x := by
        rw [hx, Int32.le_iff_toInt_le, nI_toInt (by omega)]; omega
      unfold c_run at h
      have eh := hB.sc 11
      by_cases b : T 2 0 11 = 0
      · obtain ⟨f, rfl⟩ : ∃ f', f = f' + 10 := ⟨f - 10, by omega⟩
        rw [if_pos b] at h
        refine br_f hlt (br_t (eh.trans b) (c2 _ _ _ I0 _ hB (ho b).1 (fun I' D' h' => ?_)))
        exact ih f (i + 1) (x + 1) _ _ _ (by omega) (by rw [hx, nI_1]) (by omega) h' (ho b).2 h
      · obtain ⟨f, rfl⟩ : ∃ f', f = f' + 12 := ⟨f - 12, by omega⟩
        rw [if_neg b] at h
        refine br_f hlt (br_f (fun z => b (eh.symm.trans z)) ?_)
        have h := h _ _ hB
        rw [← hB.sc 13, ← hA.sc 13] at h
        exact h
  exact L n.toNatClampNeg 4991 0 0 _ _ S (by omega) rfl (by omega) hA ho h
theorem x_cycles (d : Nat) : S_cycles (sc_wpM (d + 7)) := fun I D K I0 S n hA ha ho h => sc_open (d := d + 6) rfl (z_cycles (sc_wpM (d + 6)) (x_checkArg (d + 5)) (x_runCycle (d + 0)) I D K I0 S n hA ha ho h)
end
section
theorem c_in0 {w n : Int32} {N : Nat} (h : 0 ≤ w ∧ w < n) (hn : n.toInt ≤ (N : Int)) : vp_in w N := by
  have a : (0 : Int) ≤ w.toInt := Int32.le_iff_toInt_le.mp h.1
  have b := Int32.lt_iff_toInt_lt.mp h.2
  exact vp_in_iff.mpr ⟨a, by omega⟩
abbrev S_poke (C : sc_CT) : Prop := ∀ (I : sc_I) (D : sc_R) (K : sc_RT) (I0 S : sc_I) (w v : Int32) (hA : c_AM I0 I D S) (ha : 0 ≤ w ∧ w < 32) (h : ∀ I', c_AM I0 I' D (sc_u S 4 0 w.toNatClampNeg v) → K (some (.inl (S 4 0 w.toNatClampNeg))) I' D), C 10 [.inr (2, 0), .inl w, .inl v] I D K
theorem z_poke (C : sc_CT) (c1 : S_checkIdx C) (I : sc_I) (D : sc_R) (K : sc_RT) (I0 S : sc_I) (w v : Int32) (hA : c_AM I0 I D S) (ha : 0 ≤ w ∧ w < 32) (h : ∀ I', c_AM I0 I' D (sc_u S 4 0 w.toNatClampNeg v) → K (some (.inl (S 4 0 w.toNatClampNeg))) I' D) : sc_wp C K (sc_t 10) 5000 (sc_t 10) (sc_al 0 [.inr (2, 0), .inl w, .inl v]) [] I D := by
  have hv : vp_in w 32 := c_in0 ha (by decide)
  refine c1 _ _ _ _ _ ha (And.intro hv (And.intro hv ?_))
  have h := h _ (hA.p4 (j := 0) (by decide) rfl rfl)
  rw [← hA.ar (j := 0) (by decide)] at h
  exact h
theorem x_poke (d : Nat) : S_poke (sc_wpM (d + 2)) := fun I D K I0 S w v hA ha h => sc_open (d := d + 1) rfl (z_poke (sc_wpM (d + 1)) (x_checkIdx (d + 0)) I D K I0 S w v hA ha h)
abbrev S_peek (C : sc_CT) : Prop := ∀ (I : sc_I) (D : sc_R) (K : sc_RT) (I0 S : sc_I) (w : Int32) (hA : c_AM I0 I D S) (ha : 0 ≤ w ∧ w < 32) (h : K (some (.inl (S 4 0 w.toNatClampNeg))) I D), C 11 [.inr (2, 0), .inl w] I D K
theorem z_peek (C : sc_CT) (c1 : S_checkIdx C) (I : sc_I) (D : sc_R) (K : sc_RT) (I0 S : sc_I) (w : Int32) (hA : c_AM I0 I D S) (ha : 0 ≤ w ∧ w < 32) (h : K (some (.inl (S 4 0 w.toNatClampNeg))) I D) : sc_wp C K (sc_t 11) 5000 (sc_t 11) (sc_al 0 [.inr (2, 0), .inl w]) [] I D := by
  rw [← hA.ar (j := 0) (by decide)] at h
  exact c1 _ _ _ _ _ ha (And.intro (c_in0 ha (by decide)) h)
theorem x_peek (d : Nat) : S_peek (sc_wpM (d + 2)) := fun I D K I0 S w hA ha h => sc_open (d := d + 1) rfl (z_peek (sc_wpM (d + 1)) (x_checkIdx (d + 0)) I D K I0 S w hA ha h)
abbrev S_set (C : sc_CT) : Prop := ∀ (I : sc_I) (D : sc_R) (K : sc_RT) (I0 S : sc_I) (w v : Int32) (hA : c_AM I0 I D S) (ha : 0 ≤ w ∧ w < 16) (h0 : ¬ w = 0) (h : ∀ I', c_AM I0 I' D (sc_u S 4 1 w.toNatClampNeg v) → K (some (.inl (S 4 1 w.toNatClampNeg))) I' D), C 12 [.inr (2, 0), .inl w, .inl v] I D K
theorem z_set (C : sc_CT) (c1 : S_checkIdx C) (I : sc_I) (D : sc_R) (K : sc_RT) (I0 S : sc_I) (w v : Int32) (hA : c_AM I0 I D S) (ha : 0 ≤ w ∧ w < 16) (h0 : ¬ w = 0) (h : ∀ I', c_AM I0 I' D (sc_u S 4 1 w.toNatClampNeg v) → K (some (.inl (S 4 1 w.toNatClampNeg))) I' D) : sc_wp C K (sc_t 12) 5000 (sc_t 12) (sc_al 0 [.inr (2, 0), .inl w, .inl v]) [] I D := by
  have hv : vp_in w 16 := c_in0 ha (by decide)
  refine c1 _ _ _ _ _ ha (br_f h0 (And.intro hv (And.intro hv ?_)))
  have h := h _ (hA.p4 (j := 1) (by decide) rfl rfl)
  rw [← hA.ar (j := 1) (by decide)] at h
  exact h
theorem x_set (d : Nat) : S_set (sc_wpM (d + 2)) := fun I D K I0 S w v hA ha h0 h => sc_open (d := d + 1) rfl (z_set (sc_wpM (d + 1)) (x_checkIdx (d + 0)) I D K I0 S w v hA ha h0 h)
abbrev S_register (C : sc_CT) : Prop := ∀ (I : sc_I) (D : sc_R) (K : sc_RT) (I0 S : sc_I) (w : Int32) (hA : c_AM I0 I D S) (ha : 0 ≤ w ∧ w < 16) (h : K (some (.inl (S 4 1 w.toNatClampNeg))) I D), C 13 [.inr (2, 0), .inl w] I D K
theorem z_register (C : sc_CT) (c1 : S_checkIdx C) (I : sc_I) (D : sc_R) (K : sc_RT) (I0 S : sc_I) (w : Int32) (hA : c_AM I0 I D S) (ha : 0 ≤ w ∧ w < 16) (h : K (some (.inl (S 4 1 w.toNatClampNeg))) I D) : sc_wp C K (sc_t 13) 5000 (sc_t 13) (sc_al 0 [.inr (2, 0), .inl w]) [] I D := by
  rw [← hA.ar (j := 1) (by decide)] at h
  exact c1 _ _ _ _ _ ha (And.intro (c_in0 ha (by decide)) h)
theorem x_register (d : Nat) : S_register (sc_wpM (d + 2)) := fun I D K I0 S w hA ha h => sc_open (d := d + 1) rfl (z_register (sc_wpM (d + 1)) (x_checkIdx (d + 0)) I D K I0 S w hA ha h)
abbrev S_start (C : sc_CT) : Prop := ∀ (I : sc_I) (D : sc_R) (K : sc_RT) (I0 S : sc_I) (w : Int32) (hA : c_AM I0 I D S) (ha : 0 ≤ w ∧ w < 64) (h : ∀ I', c_AM I0 I' D (sc_u (sc_u (c_em5 S) 2 0 7 w) 2 0 11 0) → K none I' D), C 15 [.inr (2, 0), .inl w] I D K
theorem z_start (C : sc_CT) (c1 : S_checkIdx C) (c2 : S_empty5 C) (I : sc_I) (D : sc_R) (K : sc_RT) (I0 S : sc_I) (w : Int32) (hA : c_AM I0 I D S) (ha : 0 ≤ w ∧ w < 64) (h : ∀ I', c_AM I0 I' D (sc_u (sc_u (c_em5 S) 2 0 7 w) 2 0 11 0) → K none I' D) : sc_wp C K (sc_t 15) 5000 (sc_t 15) (sc_al 0 [.inr (2, 0), .inl w]) [] I D := by
  exact c1 _ _ _ _ _ ha (c2 _ _ _ I0 _ hA (fun I1 A1 => And.intro (Or.inl rfl) (h _ ((A1.p2 rfl).p2 rfl))))
theorem x_start (d : Nat) : S_start (sc_wpM (d + 2)) := fun I D K I0 S w hA ha h => sc_open (d := d + 1) rfl (z_start (sc_wpM (d + 1)) (x_checkIdx (d + 0)) (x_empty5 (d + 0)) I D K I0 S w hA ha h)
abbrev S_handler (C : sc_CT) : Prop := ∀ (I : sc_I) (D : sc_R) (K : sc_RT) (I0 S : sc_I) (w : Int32) (hA : c_AM I0 I D S) (ha : 0 ≤ w ∧ w < 64) (h : ∀ I', c_AM I0 I' D (sc_u S 2 0 8 w) → K (some (.inl (S 2 0 8))) I' D), C 16 [.inr (2, 0), .inl w] I D K
theorem z_handler (C : sc_CT) (c1 : S_checkIdx C) (I : sc_I) (D : sc_R) (K : sc_RT) (I0 S : sc_I) (w : Int32) (hA : c_AM I0 I D S) (ha : 0 ≤ w ∧ w < 64) (h : ∀ I', c_AM I0 I' D (sc_u S 2 0 8 w) → K (some (.inl (S 2 0 8))) I' D) : sc_wp C K (sc_t 16) 5000 (sc_t 16) (sc_al 0 [.inr (2, 0), .inl w]) [] I D := by
  have h := h _ (hA.p2 (s := 8) rfl)
  rw [← hA.sc] at h
  exact c1 _ _ _ _ _ ha h
theorem x_handler (d : Nat) : S_handler (sc_wpM (d + 2)) := fun I D K I0 S w hA ha h => sc_open (d := d + 1) rfl (z_handler (sc_wpM (d + 1)) (x_checkIdx (d + 0)) I D K I0 S w hA ha h)
abbrev S_stage (C : sc_CT) : Prop := ∀ (I : sc_I) (D : sc_R) (K : sc_RT) (I0 S : sc_I) (w : Int32) (hA : c_AM I0 I D S) (ha : 0 ≤ w ∧ w < 5) (h1 : ¬ S 0 w.toNatClampNeg 0 = 0 → K (some (.inl (S 0 w.toNatClampNeg 2))) I D) (h2 : S 0 w.toNatClampNeg 0 = 0 → K (some (.inl (-1))) I D), C 38 [.inr (2, 0), .inl w] I D K
theorem z_stage (C : sc_CT) (c1 : S_checkIdx C) (I : sc_I) (D : sc_R) (K : sc_RT) (I0 S : sc_I) (w : Int32) (hA : c_AM I0 I D S) (ha : 0 ≤ w ∧ w < 5) (h1 : ¬ S 0 w.toNatClampNeg 0 = 0 → K (some (.inl (S 0 w.toNatClampNeg 2))) I D) (h2 : S 0 w.toNatClampNeg 0 = 0 → K (some (.inl (-1))) I D) : sc_wp C K (sc_t 38) 5000 (sc_t 38) (sc_al 0 [.inr (2, 0), .inl w]) [] I D := by
  have hv : vp_in w 5 := c_in0 ha (by decide)
  have e0 := hA.fl (sc_cln hv) 0
  rw [← hA.fl (sc_cln hv) 2] at h1
  rw [← e0] at h1 h2
  exact c1 _ _ _ _ _ ha (And.intro hv (And.intro (fun z => h2 z) (fun z => h1 z)))
theorem x_stage (d : Nat) : S_stage (sc_wpM (d + 2)) := fun I D K I0 S w hA ha h1 h2 => sc_open (d := d + 1) rfl (z_stage (sc_wpM (d + 1)) (x_checkIdx (d + 0)) I D K I0 S w hA ha h1 h2)
abbrev S_counter (C : sc_CT) : Prop := ∀ (I : sc_I) (D : sc_R) (K : sc_RT) (I0 S : sc_I) (w : Int32) (hA : c_AM I0 I D S) (ha : 0 ≤ w ∧ w < 8) (h : K (some (.inl (S 4 2 w.toNatClampNeg))) I D), C 39 [.inr (2, 0), .inl w] I D K
theorem z_counter (C : sc_CT) (c1 : S_checkIdx C) (I : sc_I) (D : sc_R) (K : sc_RT) (I0 S : sc_I) (w : Int32) (hA : c_AM I0 I D S) (ha : 0 ≤ w ∧ w < 8) (h : K (some (.inl (S 4 2 w.toNatClampNeg))) I D) : sc_wp C K (sc_t 39) 5000 (sc_t 39) (sc_al 0 [.inr (2, 0), .inl w]) [] I D := by
  rw [← hA.ar (j := 2) (by decide)] at h
  exact c1 _ _ _ _ _ ha (And.intro (c_in0 ha (by decide)) h)
theorem x_counter (d : Nat) : S_counter (sc_wpM (d + 2)) := fun I D K I0 S w hA ha h => sc_open (d := d + 1) rfl (z_counter (sc_wpM (d + 1)) (x_checkIdx (d + 0)) I D K I0 S w hA ha h)
def c_m16 (x : Int32) : Int32 := if 16 < x then 16 else x
abbrev S_retired (C : sc_CT) : Prop := ∀ (I : sc_I) (D : sc_R) (K : sc_RT) (I0 S : sc_I) (w : Int32) (hA : c_AM I0 I D S) (ha : 0 ≤ w ∧ w < c_m16 (S 2 0 13)) (hx : vp_in (c_rm (S 2 0 13 - 1 - w)) 16) (h : K (some (.inl (S 4 3 (c_rm (S 2 0 13 - 1 - w)).toNatClampNeg))) I D), C 40 [.inr (2, 0), .inl w] I D K
theorem z_retired (C : sc_CT) (c1 : S_checkIdx C) (c2 : S_min C) (I : sc_I) (D : sc_R) (K : sc_RT) (I0 S : sc_I) (w : Int32) (hA : c_AM I0 I D S) (ha : 0 ≤ w ∧ w < c_m16 (S 2 0 13)) (hx : vp_in (c_rm (S 2 0 13 - 1 - w)) 16) (h : K (some (.inl (S 4 3 (c_rm (S 2 0 13 - 1 - w)).toNatClampNeg))) I D) : sc_wp C K (sc_t 40) 5000 (sc_t 40) (sc_al 0 [.inr (2, 0), .inl w]) [] I D := by
  have e := hA.sc 13
  rw [← hA.ar (j := 3) (by decide)] at h
  rw [← e] at ha hx h
  unfold c_m16 at ha
  refine c2 _ _ _ _ _ (fun a => ?_) (fun a => ?_)
  · rw [if_pos a] at ha
    exact c1 _ _ _ _ _ ha (And.intro (by decide) (And.intro hx h))
  · rw [if_neg a] at ha
    exact c1 _ _ _ _ _ ha (And.intro (by decide) (And.intro hx h))
theorem x_retired (d : Nat) : S_retired (sc_wpM (d + 2)) := fun I D K I0 S w hA ha hx h => sc_open (d := d + 1) rfl (z_retired (sc_wpM (d + 1)) (x_checkIdx (d + 0)) (x_min (d + 0)) I D K I0 S w hA ha hx h)
def c_cnt (w : Int32) (S : sc_I) : Int32 := if w = 0 then S 2 0 12 else if w = 1 then S 2 0 13 else if w = 2 then S 2 0 14 else if w = 3 then S 2 0 15 else if w = 4 then S 2 0 16 else if w = 5 then S 2 0 7 else if w = 6 then S 2 0 9 else if w = 7 then S 2 0 10 else if S 2 0 11 = 0 then 0 else 1
abbrev S_count (C : sc_CT) : Prop := ∀ (I : sc_I) (D : sc_R) (K : sc_RT) (I0 S : sc_I) (w : Int32) (hA : c_AM I0 I D S) (ha : 0 ≤ w ∧ w ≤ 8) (h : K (some (.inl (c_cnt w S))) I D), C 41 [.inr (2, 0), .inl w] I D K
theorem z_count (C : sc_CT)  (I : sc_I) (D : sc_R) (K : sc_RT) (I0 S : sc_I) (w : Int32) (hA : c_AM I0 I D S) (ha : 0 ≤ w ∧ w ≤ 8) (h : K (some (.inl (c_cnt w S))) I D) : sc_wp C K (sc_t 41) 5000 (sc_t 41) (sc_al 0 [.inr (2, 0), .inl w]) [] I D := by
  unfold c_cnt at h
  rw [← hA.sc, ← hA.sc, ← hA.sc, ← hA.sc, ← hA.sc, ← hA.sc, ← hA.sc, ← hA.sc, ← hA.sc] at h
  refine And.intro (fun z => ?_) (fun z0 => ?_)
  · rw [if_pos z] at h; exact h
  rw [if_neg z0] at h
  refine And.intro (fun z => ?_) (fun z1 => ?_)
  · rw [if_pos z] at h; exact h
  rw [if_neg z1] at h
  refine And.intro (fun z => ?_) (fun z2 => ?_)
  · rw [if_pos z] at h; exact h
  rw [if_neg z2] at h
  refine And.intro (fun z => ?_) (fun z3 => ?_)
  · rw [if_pos z] at h; exact h
  rw [if_neg z3] at h
  refine And.intro (fun z => ?_) (fun z4 => ?_)
  · rw [if_pos z] at h; exact h
  rw [if_neg z4] at h
  refine And.intro (fun z => ?_) (fun z5 => ?_)
  · rw [if_pos z] at h; exact h
  rw [if_neg z5] at h
  refine And.intro (fun z => ?_) (fun z6 => ?_)
  · rw [if_pos z] at h; exact h
  rw [if_neg z6] at h
  refine And.intro (fun z => ?_) (fun z7 => ?_)
  · rw [if_pos z] at h; exact h
  rw [if_neg z7] at h
  refine And.intro (fun z => ?_) (fun z8 => ?_)
  · refine And.intro (fun y => ?_) (fun y => ?_)
    · rw [if_pos y] at h; exact h
    · rw [if_neg y] at h; exact h
  · exfalso
    have z0 : ¬ w = 0 := z0
    have z1 : ¬ w = 1 := z1
    have z2 : ¬ w = 2 := z2
    have z3 : ¬ w = 3 := z3
    have z4 : ¬ w = 4 := z4
    have z5 : ¬ w = 5 := z5
    have z6 : ¬ w = 6 := z6
    have z7 : ¬ w = 7 := z7
    have z8 : ¬ w = 8 := z8
    grind
theorem x_count (d : Nat) : S_count (sc_wpM (d + 1)) := fun I D K I0 S w hA ha h => sc_open (d := d) rfl (z_count (sc_wpM (d))  I D K I0 S w hA ha h)
end
section
/-! the class' state S and the reference's state J -/
def r_B (x : Int32) : Prop := 0 ≤ x ∧ x ≤ 15
def r_O (x : Int32) : Prop := 0 ≤ x ∧ x ≤ 19
def r_sc (S J : sc_I) : Prop := S 2 0 7 = J 3 0 21 ∧ S 2 0 8 = J 3 0 22 ∧ S 2 0 9 = J 3 0 23 ∧ S 2 0 10 = J 3 0 24 ∧ S 2 0 11 = J 3 0 25 ∧ S 2 0 12 = J 3 0 26 ∧ S 2 0 14 = J 3 0 28 ∧ S 2 0 15 = J 3 0 29 ∧ S 2 0 16 = J 3 0 30 ∧ (J 3 0 25 = 0 ∨ J 3 0 25 = 1)
def r_ar (S J : sc_I) : Prop := (∀ x, x < 16 → S 4 1 x = J 4 10 x) ∧ (∀ x, x < 32 → S 4 0 x = J 4 9 x) ∧ (∀ x, x < 8 → S 4 2 x = J 4 11 x ∧ 0 ≤ S 4 2 x ∧ S 4 2 x ≤ 3)
def r_pg (S J : sc_I) : Prop := (∀ p, p < 64 → (S 7 p 0 = J 4 4 p ∧ S 7 p 1 = J 4 5 p ∧ S 7 p 2 = J 4 6 p ∧ S 7 p 3 = J 4 7 p ∧ S 7 p 4 = J 4 8 p) ∧ r_O (J 4 4 p) ∧ r_B (J 4 5 p) ∧ r_B (J 4 6 p) ∧ r_B (J 4 7 p)) ∧ S 7 64 0 = 19 ∧ S 7 64 1 = 0 ∧ S 7 64 2 = 0 ∧ S 7 64 3 = 0 ∧ S 7 64 4 = 0
def r_st (S J : sc_I) (i : Nat) : Prop := S 0 i 0 = J 5 0 i ∧ (J 5 0 i = 0 ∨ J 5 0 i = 1) ∧ (J 5 0 i = 1 → S 0 i 2 = J 4 12 i ∧ S 1 i 0 = J 4 13 i ∧ S 1 i 1 = J 4 14 i ∧ S 1 i 2 = J 4 15 i ∧ S 1 i 3 = J 4 16 i ∧ S 1 i 4 = J 4 17 i ∧ S 0 i 3 = J 4 18 i ∧ S 0 i 5 = J 4 21 i ∧ 0 ≤ S 0 i 5)
def r_bd (S J : sc_I) (i : Nat) : Prop := r_O (S 1 i 0) ∧ r_B (S 1 i 1) ∧ r_B (S 1 i 2) ∧ r_B (S 1 i 3) ∧ r_B (J 4 14 i) ∧ r_B (J 4 15 i) ∧ r_B (J 4 16 i)
def r_5 (S J : sc_I) : Prop := (r_st S J 0 ∧ r_st S J 1 ∧ r_st S J 2 ∧ r_st S J 3 ∧ r_st S J 4) ∧ r_bd S J 0 ∧ r_bd S J 1 ∧ r_bd S J 2 ∧ r_bd S J 3 ∧ r_bd S J 4
def r_e0 (S J : sc_I) (i : Nat) : Prop := J 5 0 i = 1 → S 0 i 4 = 0 ∧ (¬ S 0 i 5 = 0 → S 1 i 0 = 19)
def r_e2 (S J : sc_I) : Prop := J 5 0 2 = 1 → (¬ S 0 2 5 = 0 → S 1 2 0 = 19) ∧ 0 ≤ S 0 2 4 ∧ S 0 2 4 < sc_wc (S 1 2 0) ∧ J 3 0 20 = sc_wc (S 1 2 0) - S 0 2 4
def r_e3 (S J : sc_I) : Prop := J 5 0 3 = 1 → S 0 3 5 = 0 → (¬ S 1 3 0 = 11 → S 0 3 7 = J 4 19 3) ∧ ((S 1 3 0 = 11 ∨ S 1 3 0 = 12) → S 0 3 6 = J 4 20 3 ∧ 0 ≤ S 0 3 6 ∧ S 0 3 6 ≤ 31)
def r_e4 (S J : sc_I) : Prop := J 5 0 4 = 1 → S 0 4 5 = 0 → S 0 4 7 = J 4 19 4
def r_e (S J : sc_I) : Prop := r_e0 S J 0 ∧ r_e0 S J 1 ∧ r_e2 S J ∧ r_e3 S J ∧ r_e4 S J
def r_h (N : Nat) (S J : sc_I) : Prop := S 2 0 13 = J 3 0 27 ∧ ∃ n : Nat, n ≤ N ∧ J 3 0 27 = nI n ∧ J 3 0 31 = nI (min n 16) ∧ ∀ i, i < 16 → i < n → S 4 3 ((n - 1 - i) % 16) = J 4 22 i
def r_R (N : Nat) (S J : sc_I) : Prop := r_sc S J ∧ r_ar S J ∧ r_pg S J ∧ r_5 S J ∧ r_e S J ∧ r_h N S J
theorem r_tick {N : Nat} {S J : sc_I} (h : r_R N S J) : r_R N (c_tick S) (m_tick J) := by
  obtain ⟨⟨s1, s2, s3, s4, s5, s6, s7, s8, s9, s10⟩, ha, hp, h5, he, hh⟩ := h
  exact ⟨⟨s1, s2, s3, s4, s5, congrArg (· + 1) s6, s7, s8, s9, s10⟩, ha, hp, h5, he, hh⟩
theorem r_h_up {N : Nat} {S J : sc_I} (h : r_h N S J) : r_h (N + 1) S J := by
  obtain ⟨h0, n, h1, h2⟩ := h
  exact ⟨h0, n, by omega, h2⟩
theorem r_up_row {A B : Nat → Int32} {k n : Nat} {v w : Int32} (h : ∀ x, x < n → A x = B x) (hv : v = w) : ∀ x, x < n → va_up A k v x = va_up B k w x := by
  intro x hx
  unfold va_up
  rw [h x hx, hv]
theorem r_sh (J : sc_I) : ∀ k, k < 15 → m_shift J 4 22 (k + 1) = J 4 22 k := by
  intro k hk
  match k, hk with
  | 0, _ => rfl
  | 1, _ => rfl
  | 2, _ => rfl
  | 3, _ => rfl
  | 4, _ => rfl
  | 5, _ => rfl
  | 6, _ => rfl
  | 7, _ => rfl
  | 8, _ => rfl
  | 9, _ => rfl
  | 10, _ => rfl
  | 11, _ => rfl
  | 12, _ => rfl
  | 13, _ => rfl
  | 14, _ => rfl
theorem r_rm {n : Nat} (h : n < 2 ^ 31) : c_rm (nI n) = nI (n % 16) := pk_rem (d := 16) h (by decide) (by decide)
theorem r_kept {n : Nat} : m_kept (nI (min n 16)) = nI (min (n + 1) 16) := by
  unfold m_kept
  by_cases h : n < 16
  · rw [Nat.min_eq_left (by omega), Nat.min_eq_left (by omega), if_pos (show nI n < 16 from nI_lt (b := 16) h (by decide)), nI_1]
  · rw [Nat.min_eq_right (by omega), Nat.min_eq_right (by omega)]
    rfl
/-- the history, one more -/
theorem r_hist {n : Nat} {A B : Nat → Int32} {v : Int32} {M : Nat → Int32} (h : ∀ i, i < 16 → i < n → A ((n - 1 - i) % 16) = B i) (h0 : M 0 = v) (hs : ∀ k, k < 15 → M (k + 1) = B k) : ∀ i, i < 16 → i < n + 1 → va_up A (n % 16) v ((n + 1 - 1 - i) % 16) = M i := by
  intro i hi hn
  cases i with
  | zero =>
    rw [h0, show (n + 1 - 1 - 0) % 16 = n % 16 by omega, va_up_self]
  | succ k =>
    rw [hs k (by omega), va_up_ne _ _ (by omega), ← h k (by omega) (by omega)]
    congr 1
    omega
theorem r_Bv {x : Int32} (h : r_B x) : vp_in x 16 := m_vr h (by decide) (by decide)
theorem r_01 {x : Int32} (h : x = 0 ∨ x = 1) (h0 : ¬ x = 0) : x = 1 := h.resolve_left h0
theorem r_wd {x : Int32} (h : r_O x) : c_wd x ↔ m_wdD x := by
  have := h.1
  unfold c_wd m_wdD
  constructor
  · rintro (a | a)
    · exact Or.inl ⟨this, a⟩
    · exact Or.inr a
  · rintro (a | a)
    · exact Or.inl a.2
    · exact Or.inr a
/-- a flight leaves WRITTEN -/
theorem r_lv {N : Nat} {S J : sc_I} (hR : r_R N S J) (hN : N < 2 ^ 30) : (c_end S ↔ m_end J) ∧ r_R (N + 1) (c_lv S) (m_lv J) ∧ (¬ m_end J → m_lv J 5 0 4 = 0) := by
  obtain ⟨⟨s1, s2, s3, s4, s5, s6, s7, s8, s9, s10⟩, ⟨a1, a2, a3⟩, hp, ⟨⟨t0, t1, t2, t3, t4⟩, b0, b1, b2, b3, b4⟩, ⟨e0, e1, e2, e3, e4⟩, hh⟩ := id hR
  by_cases h0 : J 5 0 4 = 0
  · have h0' : S 0 4 0 = 0 := t4.1.trans h0
    refine ⟨⟨fun z => absurd h0' z.1, fun z => absurd h0 z.1⟩, ?_, fun _ => ?_⟩
    · unfold c_lv m_lv
      rw [if_pos h0, if_pos h0']
      exact ⟨hR.1, hR.2.1, hR.2.2.1, hR.2.2.2.1, hR.2.2.2.2.1, r_h_up hh⟩
    · unfold m_lv
      rw [if_pos h0]
      exact h0
  have h01 : J 5 0 4 = 1 := r_01 t4.2.1 h0
  have h0' : ¬ S 0 4 0 = 0 := fun z => h0 (t4.1.symm.trans z)
  obtain ⟨q1, q2, q3, q4, q5, q6, q7, q8, q9⟩ := t4.2.2 h01
  by_cases hf : S 0 4 5 = 0
  · have hf' : J 4 21 4 ≤ 0 := by rw [← q8, hf]; decide
    by_cases hl : S 1 4 0 = 18
    · have hl' : J 4 13 4 = 18 := q2.symm.trans hl
      refine ⟨⟨fun _ => ⟨h0, Or.inr hl'⟩, fun _ => ⟨h0', Or.inr hl⟩⟩, ?_, fun z => absurd ⟨h0, Or.inr hl'⟩ z⟩
      unfold c_lv m_lv
      rw [if_neg h0, if_neg h0', if_pos hf, if_pos hf', if_pos hl, if_pos hl']
      have z : ∀ {A : Prop}, ((0 : Int32) = 1 → A) := fun h => absurd h (by decide)
      exact ⟨⟨s1, s2, s3, s4, rfl, s6, s7, s8, s9, Or.inr rfl⟩, ⟨a1, a2, a3⟩, hp, ⟨⟨⟨rfl, Or.inl rfl, z⟩, ⟨rfl, Or.inl rfl, z⟩, ⟨rfl, Or.inl rfl, z⟩, ⟨rfl, Or.inl rfl, z⟩, ⟨rfl, Or.inl rfl, z⟩⟩, b0, b1, b2, b3, b4⟩, ⟨z, z, z, z, z⟩, r_h_up hh⟩
    · have hl' : ¬ J 4 13 4 = 18 := fun z => hl (q2.trans z)
      refine ⟨⟨fun w => absurd w.2 (fun y => y.elim (fun x => x hf) hl), fun w => absurd w.2 (fun y => y.elim (fun x => x hf') hl')⟩, ?_, fun _ => ?_⟩
      · obtain ⟨hh0, n, n1, n2, n3, n4⟩ := hh
        have enc : (c_rm (S 2 0 13)).toNatClampNeg = n % 16 := by
          rw [hh0, n2, r_rm (by omega), nI_clamp (by omega)]
        have z : ∀ {A : Prop}, ((0 : Int32) = 1 → A) := fun h => absurd h (by decide)
        have eh : ∀ i, i < 16 → i < n + 1 → va_up (S 4 3) (n % 16) (S 0 4 2) ((n + 1 - 1 - i) % 16) = va_up (m_shift J 4 22) 0 (J 4 12 4) i := r_hist n4 (by rw [va_up_self, q1]) (fun k hk => by rw [va_up_ne _ _ (by omega)]; exact r_sh J k hk)
        unfold c_lv m_lv
        rw [if_neg h0, if_neg h0', if_pos hf, if_pos hf', if_neg hl, if_neg hl']
        unfold c_ret c_reg
        by_cases hw : c_wr S 4 (S 1 4 1)
        · have hw' : m_wdD (J 4 13 4) ∧ ¬ J 4 14 4 = 0 := by
            rw [← q2, ← q3]
            exact ⟨(r_wd b4.1).mp hw.2.2.2.1, hw.2.2.1⟩
          rw [if_pos hw, if_pos hw', enc]
          refine ⟨⟨s1, s2, s3, s4, s5, s6, s7, s8, s9, s10⟩, ⟨?_, a2, a3⟩, hp, ⟨⟨t0, t1, t2, t3, ⟨rfl, Or.inl rfl, z⟩⟩, b0, b1, b2, b3, b4⟩, ⟨e0, e1, e2, e3, z⟩, congrArg (· + 1) hh0, n + 1, by omega, ?_, ?_, ?_⟩
          · intro x hx
            show sc_u S 4 1 _ _ 4 1 x = sc_u (sc_u J 5 0 4 0) 4 10 _ _ 4 10 x
            rw [sc_u_at, sc_u_at, q3]
            exact r_up_row a1 (e4 h01 hf) x hx
          · show J 3 0 27 + 1 = nI (n + 1)
            rw [n2, nI_1]
          · show m_kept (J 3 0 31) = _
            rw [n3, r_kept]
          · intro i hi hin
            show sc_u (sc_u S 4 1 _ _) 4 3 (n % 16) (S 0 4 2) 4 3 _ = sc_u (m_shift _) 4 22 0 _ 4 22 i
            rw [sc_u_at, sc_u_at]
            exact eh i hi hin
        · have hw' : ¬ (m_wdD (J 4 13 4) ∧ ¬ J 4 14 4 = 0) := by
            rw [← q2, ← q3]
            exact fun y => hw ⟨h0', hf, y.2, (r_wd b4.1).mpr y.1, rfl⟩
          rw [if_neg hw, if_neg hw', enc]
          refine ⟨⟨s1, s2, s3, s4, s5, s6, s7, s8, s9, s10⟩, ⟨a1, a2, a3⟩, hp, ⟨⟨t0, t1, t2, t3, ⟨rfl, Or.inl rfl, z⟩⟩, b0, b1, b2, b3, b4⟩, ⟨e0, e1, e2, e3, z⟩, congrArg (· + 1) hh0, n + 1, by omega, ?_, ?_, ?_⟩
          · show J 3 0 27 + 1 = nI (n + 1)
            rw [n2, nI_1]
          · show m_kept (J 3 0 31) = _
            rw [n3, r_kept]
          · intro i hi hin
            show sc_u S 4 3 (n % 16) (S 0 4 2) 4 3 _ = sc_u (m_shift _) 4 22 0 _ 4 22 i
            rw [sc_u_at, sc_u_at]
            exact eh i hi hin
      · unfold m_lv
        rw [if_neg h0, if_pos hf', if_neg hl']
        split <;> rfl
  · have hf' : ¬ J 4 21 4 ≤ 0 := by
      rw [← q8]
      intro w
      exact hf (Int32.le_antisymm w q9)
    refine ⟨⟨fun _ => ⟨h0, Or.inl hf'⟩, fun _ => ⟨h0', Or.inl hf⟩⟩, ?_, fun z => absurd ⟨h0, Or.inl hf'⟩ z⟩
    unfold c_lv m_lv
    rw [if_neg h0, if_neg h0', if_neg hf, if_neg hf']
    have z : ∀ {A : Prop}, ((0 : Int32) = 1 → A) := fun h => absurd h (by decide)
    exact ⟨⟨s2, s2, q8, q1, s5, s6, s7, s8, congrArg (· + 1) s9, s10⟩, ⟨a1, a2, a3⟩, hp, ⟨⟨⟨rfl, Or.inl rfl, z⟩, ⟨rfl, Or.inl rfl, z⟩, ⟨rfl, Or.inl rfl, z⟩, ⟨rfl, Or.inl rfl, z⟩, ⟨rfl, Or.inl rfl, z⟩⟩, b0, b1, b2, b3, b4⟩, ⟨z, z, z, z, z⟩, r_h_up hh⟩
end
section
theorem sc_u_id {α : Type} (I : Nat → Nat → Nat → α) (k i s : Nat) : sc_u I k i s (I k i s) = I := by
  funext a b c
  by_cases h : a = k ∧ b = i
  · obtain ⟨rfl, rfl⟩ := h
    rw [sc_u_at]
    by_cases e : c = s
    · rw [e, va_up_self]
    · rw [va_up_ne _ _ e]
  · rw [sc_u_row _ _ _ _ _ h]
theorem sc_u_comm {α : Type} (I : Nat → Nat → Nat → α) {k i s k' i' s' : Nat} {v w : α} (h : ¬ (k = k' ∧ i = i')) : sc_u (sc_u I k i s v) k' i' s' w = sc_u (sc_u I k' i' s' w) k i s v := by
  funext a b
  by_cases h1 : a = k' ∧ b = i'
  · obtain ⟨rfl, rfl⟩ := h1
    rw [sc_u_at, sc_u_row _ _ _ _ _ (fun e => h ⟨e.1.symm, e.2.symm⟩), sc_u_row _ _ _ _ _ (fun e => h ⟨e.1.symm, e.2.symm⟩), sc_u_at]
  · rw [sc_u_row _ _ _ _ _ h1]
    by_cases h2 : a = k ∧ b = i
    · obtain ⟨rfl, rfl⟩ := h2
      rw [sc_u_at, sc_u_at, sc_u_row _ _ _ _ _ h1]
    · rw [sc_u_row _ _ _ _ _ h2, sc_u_row _ _ _ _ _ h2, sc_u_row _ _ _ _ _ h1]
theorem r_z {A : Prop} : (0 : Int32) = 1 → A := fun h => absurd h (by decide)
theorem r_n0 {x : Int32} {A : Prop} (h : x = 0) : x = 1 → A := fun e => absurd (h.symm.trans e) (by decide)
theorem r_lt {x : Int32} {n : Nat} (h : vp_in x n) : x.toNatClampNeg < n := Nat.not_le.mp (fun z => h (Or.inr z))
theorem r_31 {x : Int32} (h : 0 ≤ x ∧ x ≤ 31) : vp_in x 32 := m_vr h (by decide) (by decide)
theorem r_63 {x : Int32} (h : 0 ≤ x ∧ x ≤ 63) : vp_in x 64 := m_vr h (by decide) (by decide)
/-- what a load ahead writes -/
def m_q (J : sc_I) : Int32 := if ¬ J 5 0 4 = 0 ∧ J 4 13 4 = 11 ∧ J 4 21 4 = 0 then J 4 14 4 else 0
theorem m_q_lv {J : sc_I} (h : ¬ m_end J) : m_ldd (m_lv J) = m_ldd J := by
  unfold m_lv
  by_cases h0 : J 5 0 4 = 0
  · rw [if_pos h0]
  · have h1 : J 4 21 4 ≤ 0 := Classical.byContradiction fun z => h ⟨h0, Or.inl z⟩
    have h2 : ¬ J 4 13 4 = 18 := fun z => h ⟨h0, Or.inr z⟩
    rw [if_neg h0, if_pos h1, if_neg h2]
    split <;> rfl
theorem m_q_rem {J : sc_I} (h : J 5 0 4 = 0) : m_q (m_rem J) = m_ldd J := by
  unfold m_rem
  by_cases h0 : J 5 0 3 = 0
  · rw [if_pos h0]
    unfold m_q m_ldd
    rw [if_neg (fun z => z.1 h), if_neg (fun z => z.1 h0)]
  · rw [if_neg h0]
    have e : ∀ X : sc_I, X 5 0 4 = 1 → X 4 13 4 = J 4 13 3 → X 4 21 4 = J 4 21 3 → X 4 14 4 = J 4 14 3 → m_q X = m_ldd J := by
      intro X x1 x2 x3 x4
      unfold m_q m_ldd
      rw [x1, x2, x3, x4]
      by_cases c : J 4 13 3 = 11 ∧ J 4 21 3 = 0
      · rw [if_pos ⟨by decide, c⟩, if_pos ⟨h0, c⟩]
      · rw [if_neg (fun z => c z.2), if_neg (fun z => c z.2)]
    split
    · split
      · exact e _ rfl rfl rfl rfl
      · split
        · exact e _ rfl rfl rfl rfl
        · exact e _ rfl rfl rfl rfl
    · exact e _ rfl rfl rfl rfl
/-- a flight passes REMEMBERED -/
theorem r_mem {N : Nat} {S J : sc_I} (hR : r_R N S J) (h4 : J 5 0 4 = 0) : r_R N (c_mem S) (m_rem J) ∧ m_rem J 5 0 3 = 0 := by
  obtain ⟨hs, ⟨a1, a2, a3⟩, hp, ⟨⟨t0, t1, t2, t3, t4⟩, b0, b1, b2, b3, b4⟩, ⟨e0, e1, e2, e3, e4⟩, hh⟩ := id hR
  have h4' : S 0 4 0 = 0 := t4.1.trans h4
  by_cases h0 : J 5 0 3 = 0
  · have h0' : S 0 3 0 = 0 := t3.1.trans h0
    unfold c_mem c_mv m_rem
    rw [if_neg (fun z : c_do S 3 11 => z.1 h0'), if_neg (fun z : c_do S 3 12 => z.1 h0'), if_pos (show S 0 (3 + 1) 0 = 0 from h4'), if_pos h0]
    exact ⟨⟨hs, ⟨a1, a2, a3⟩, hp, ⟨⟨t0, t1, t2, ⟨h4'.trans h0.symm, Or.inl h0, r_n0 h0⟩, ⟨h0'.trans h4.symm, Or.inl h4, r_n0 h4⟩⟩, b0, b1, b2, ⟨b4.1, b4.2.1, b4.2.2.1, b4.2.2.2.1, b3.2.2.2.2⟩, ⟨b3.1, b3.2.1, b3.2.2.1, b3.2.2.2.1, b4.2.2.2.2⟩⟩, ⟨e0, e1, e2, r_n0 h0, r_n0 h4⟩, hh⟩, h0⟩
  have h01 : J 5 0 3 = 1 := r_01 t3.2.1 h0
  have h01' : S 0 3 0 = 1 := t3.1.trans h01
  have h0' : ¬ S 0 3 0 = 0 := fun z => h0 (t3.1.symm.trans z)
  obtain ⟨q1, q2, q3, q4, q5, q6, q7, q8, q9⟩ := t3.2.2 h01
  unfold m_rem
  rw [if_neg h0]
  have bd3 : ∀ {f : Nat → Int32}, r_O (S 1 4 0) ∧ r_B (S 1 4 1) ∧ r_B (S 1 4 2) ∧ r_B (S 1 4 3) ∧ r_B (J 4 14 3) ∧ r_B (J 4 15 3) ∧ r_B (J 4 16 3) := ⟨b4.1, b4.2.1, b4.2.2.1, b4.2.2.2.1, b3.2.2.2.2⟩
  have bd4 : r_O (S 1 3 0) ∧ r_B (S 1 3 1) ∧ r_B (S 1 3 2) ∧ r_B (S 1 3 3) ∧ r_B (J 4 14 3) ∧ r_B (J 4 15 3) ∧ r_B (J 4 16 3) := b3
  by_cases hf : S 0 3 5 = 0
  · have hf' : J 4 21 3 = 0 := q8.symm.trans hf
    obtain ⟨ev, ea⟩ := e3 h01 hf
    rw [if_pos hf']
    by_cases o1 : S 1 3 0 = 11
    · have o1' : J 4 13 3 = 11 := q2.symm.trans o1
      obtain ⟨g1, g2⟩ := ea (Or.inl o1)
      unfold c_mem c_mv
      rw [if_pos (show c_do S 3 11 from ⟨h0', hf, o1⟩), if_pos (show sc_u S 0 3 7 _ 0 (3 + 1) 0 = 0 from h4'), if_pos o1']
      exact ⟨⟨hs, ⟨a1, a2, a3⟩, hp, ⟨⟨t0, t1, t2, ⟨h4', Or.inl rfl, r_z⟩, ⟨h01', Or.inr rfl, fun _ => ⟨q1, q2, q3, q4, q5, q6, q7, q8, q9⟩⟩⟩, b0, b1, b2, ⟨b4.1, b4.2.1, b4.2.2.1, b4.2.2.2.1, b3.2.2.2.2⟩, b3⟩, ⟨e0, e1, e2, r_z, fun _ _ => by
        show S 4 0 (S 0 3 6).toNatClampNeg = J 4 9 (J 4 20 3).toNatClampNeg
        rw [← g1]
        exact a2 _ (r_lt (r_31 g2))⟩, hh⟩, rfl⟩
    · have o1' : ¬ J 4 13 3 = 11 := fun z => o1 (q2.trans z)
      by_cases o2 : S 1 3 0 = 12
      · have o2' : J 4 13 3 = 12 := q2.symm.trans o2
        obtain ⟨g1, g2⟩ := ea (Or.inr o2)
        unfold c_mem c_mv
        rw [if_neg (fun z : c_do S 3 11 => o1 z.2.2), if_pos (show c_do S 3 12 from ⟨h0', hf, o2⟩), if_pos (show sc_u S 4 0 _ _ 0 (3 + 1) 0 = 0 from h4'), if_neg o1', if_pos o2']
        refine ⟨⟨hs, ⟨a1, ?_, a3⟩, hp, ⟨⟨t0, t1, t2, ⟨h4', Or.inl rfl, r_z⟩, ⟨h01', Or.inr rfl, fun _ => ⟨q1, q2, q3, q4, q5, q6, q7, q8, q9⟩⟩⟩, b0, b1, b2, ⟨b4.1, b4.2.1, b4.2.2.1, b4.2.2.2.1, b3.2.2.2.2⟩, b3⟩, ⟨e0, e1, e2, r_z, fun _ _ => ev o1⟩, hh⟩, rfl⟩
        intro x hx
        show sc_u S 4 0 _ _ 4 0 x = sc_u (m_move 3 J) 4 9 _ _ 4 9 x
        rw [sc_u_at, sc_u_at, g1]
        exact r_up_row (B := m_move 3 J 4 9) a2 (ev o1) x hx
      · have o2' : ¬ J 4 13 3 = 12 := fun z => o2 (q2.trans z)
        unfold c_mem c_mv
        rw [if_neg (fun z : c_do S 3 11 => o1 z.2.2), if_neg (fun z : c_do S 3 12 => o2 z.2.2), if_pos (show S 0 (3 + 1) 0 = 0 from h4'), if_neg o1', if_neg o2']
        exact ⟨⟨hs, ⟨a1, a2, a3⟩, hp, ⟨⟨t0, t1, t2, ⟨h4', Or.inl rfl, r_z⟩, ⟨h01', Or.inr rfl, fun _ => ⟨q1, q2, q3, q4, q5, q6, q7, q8, q9⟩⟩⟩, b0, b1, b2, ⟨b4.1, b4.2.1, b4.2.2.1, b4.2.2.2.1, b3.2.2.2.2⟩, b3⟩, ⟨e0, e1, e2, r_z, fun _ _ => ev o1⟩, hh⟩, rfl⟩
  · have hf' : ¬ J 4 21 3 = 0 := fun z => hf (q8.trans z)
    unfold c_mem c_mv
    rw [if_neg (fun z : c_do S 3 11 => hf z.2.1), if_neg (fun z : c_do S 3 12 => hf z.2.1), if_pos (show S 0 (3 + 1) 0 = 0 from h4'), if_neg hf']
    exact ⟨⟨hs, ⟨a1, a2, a3⟩, hp, ⟨⟨t0, t1, t2, ⟨h4', Or.inl rfl, r_z⟩, ⟨h01', Or.inr rfl, fun _ => ⟨q1, q2, q3, q4, q5, q6, q7, q8, q9⟩⟩⟩, b0, b1, b2, ⟨b4.1, b4.2.1, b4.2.2.1, b4.2.2.2.1, b3.2.2.2.2⟩, b3⟩, ⟨e0, e1, e2, r_z, fun _ z => absurd z hf⟩, hh⟩, rfl⟩
theorem r_wc (x : Int32) : (0 : Int32) < sc_wc x := by
  unfold sc_wc
  split
  · decide
  · split <;> decide
theorem r_mv1 {N : Nat} {S J : sc_I} (hR : r_R N S J) : r_R N (c_mv 1 S) (m_mv1 J) := by
  obtain ⟨hs, ha, hp, ⟨⟨t0, t1, t2, t3, t4⟩, b0, b1, b2, b3, b4⟩, ⟨e0, e1, e2, e3, e4⟩, hh⟩ := id hR
  unfold c_mv m_mv1
  by_cases h2 : J 5 0 2 = 0
  · have h2' : S 0 2 0 = 0 := t2.1.trans h2
    rw [if_pos (show S 0 (1 + 1) 0 = 0 from h2')]
    by_cases h1 : J 5 0 1 = 0
    · have h1' : S 0 1 0 = 0 := t1.1.trans h1
      rw [if_neg (fun z => z.2 h1)]
      exact ⟨hs, ha, hp, ⟨⟨t0, ⟨h2'.trans h1.symm, Or.inl h1, r_n0 h1⟩, ⟨h1'.trans h2.symm, Or.inl h2, r_n0 h2⟩, t3, t4⟩, b0, ⟨b2.1, b2.2.1, b2.2.2.1, b2.2.2.2.1, b1.2.2.2.2⟩, ⟨b1.1, b1.2.1, b1.2.2.1, b1.2.2.2.1, b2.2.2.2.2⟩, b3, b4⟩, ⟨e0, r_n0 h1, r_n0 h2, e3, e4⟩, hh⟩
    · have h11 : J 5 0 1 = 1 := r_01 t1.2.1 h1
      obtain ⟨q1, q2, q3, q4, q5, q6, q7, q8, q9⟩ := t1.2.2 h11
      obtain ⟨g1, g2⟩ := e1 h11
      rw [if_pos ⟨h2, h1⟩]
      refine ⟨hs, ha, hp, ⟨⟨t0, ⟨h2', Or.inl rfl, r_z⟩, ⟨t1.1.trans h11, Or.inr rfl, fun _ => ⟨q1, q2, q3, q4, q5, q6, q7, q8, q9⟩⟩, t3, t4⟩, b0, ⟨b2.1, b2.2.1, b2.2.2.1, b2.2.2.2.1, b1.2.2.2.2⟩, b1, b3, b4⟩, ⟨e0, r_z, fun _ => ⟨g2, ?_, ?_, ?_⟩, e3, e4⟩, hh⟩
      · show 0 ≤ S 0 1 4
        rw [g1]; decide
      · show S 0 1 4 < sc_wc (S 1 1 0)
        rw [g1]; exact r_wc _
      · show sc_wc (J 4 13 1) = sc_wc (S 1 1 0) - S 0 1 4
        rw [g1, q2, Int32.sub_zero]
  · rw [if_neg (show ¬ S 0 (1 + 1) 0 = 0 from fun z => h2 (t2.1.symm.trans z)), if_neg (fun z => h2 z.1)]
    exact hR
theorem r_mv0 {N : Nat} {S J : sc_I} (hR : r_R N S J) : r_R N (c_mv 0 S) (m_mv0 J) := by
  obtain ⟨hs, ha, hp, ⟨⟨t0, t1, t2, t3, t4⟩, b0, b1, b2, b3, b4⟩, ⟨e0, e1, e2, e3, e4⟩, hh⟩ := id hR
  unfold c_mv m_mv0
  by_cases h2 : J 5 0 1 = 0
  · have h2' : S 0 1 0 = 0 := t1.1.trans h2
    rw [if_pos (show S 0 (0 + 1) 0 = 0 from h2')]
    by_cases h1 : J 5 0 0 = 0
    · have h1' : S 0 0 0 = 0 := t0.1.trans h1
      rw [if_neg (fun z => z.2 h1)]
      exact ⟨hs, ha, hp, ⟨⟨⟨h2'.trans h1.symm, Or.inl h1, r_n0 h1⟩, ⟨h1'.trans h2.symm, Or.inl h2, r_n0 h2⟩, t2, t3, t4⟩, ⟨b1.1, b1.2.1, b1.2.2.1, b1.2.2.2.1, b0.2.2.2.2⟩, ⟨b0.1, b0.2.1, b0.2.2.1, b0.2.2.2.1, b1.2.2.2.2⟩, b2, b3, b4⟩, ⟨r_n0 h1, r_n0 h2, e2, e3, e4⟩, hh⟩
    · have h11 : J 5 0 0 = 1 := r_01 t0.2.1 h1
      obtain ⟨q1, q2, q3, q4, q5, q6, q7, q8, q9⟩ := t0.2.2 h11
      rw [if_pos ⟨h2, h1⟩]
      exact ⟨hs, ha, hp, ⟨⟨⟨h2', Or.inl rfl, r_z⟩, ⟨t0.1.trans h11, Or.inr rfl, fun _ => ⟨q1, q2, q3, q4, q5, q6, q7, q8, q9⟩⟩, t2, t3, t4⟩, ⟨b1.1, b1.2.1, b1.2.2.1, b1.2.2.2.1, b0.2.2.2.2⟩, b0, b2, b3, b4⟩, ⟨r_z, fun _ => e0 h11, e2, e3, e4⟩, hh⟩
  · rw [if_neg (show ¬ S 0 (0 + 1) 0 = 0 from fun z => h2 (t1.1.symm.trans z)), if_neg (fun z => h2 z.1)]
    exact hR
theorem r_le00 : (0 : Int32) ≤ 0 := by decide
theorem r_le01 : (0 : Int32) ≤ 1 := by decide
theorem r_B0 : r_B 0 := ⟨by decide, by decide⟩
theorem r_fd {w : Int32} : c_fd w ↔ (0 ≤ w ∧ w ≤ 63) := by
  unfold c_fd
  rw [Int32.lt_iff_toInt_lt, Int32.le_iff_toInt_le, Int32.le_iff_toInt_le, Int32.le_iff_toInt_le, show (0 : Int32).toInt = 0 from rfl, show (63 : Int32).toInt = 63 from rfl, show (64 : Int32).toInt = 64 from rfl]
  omega
theorem r_lt2 {w : Int32} : w < 2 ↔ w ≤ 1 := by
  rw [Int32.lt_iff_toInt_lt, Int32.le_iff_toInt_le, show (2 : Int32).toInt = 2 from rfl, show (1 : Int32).toInt = 1 from rfl]
  omega
theorem r_ft {N : Nat} {S J : sc_I} (hR : r_R N S J) : r_R N (c_ft0 S) (m_ft0 J) := by
  obtain ⟨⟨s1, s2, s3, s4, s5, s6, s7, s8, s9, s10⟩, ha, hp, ⟨⟨t0, t1, t2, t3, t4⟩, b0, b1, b2, b3, b4⟩, ⟨e0, e1, e2, e3, e4⟩, hh⟩ := id hR
  unfold c_ft0 m_ft0
  by_cases h0 : J 5 0 0 = 0
  · rw [if_pos h0, if_pos (t0.1.trans h0)]
    unfold m_ftc
    by_cases hw : 0 ≤ J 3 0 21 ∧ J 3 0 21 ≤ 63
    · rw [if_pos hw, if_pos (show c_fd (S 2 0 7) by rw [s1]; exact r_fd.mpr hw)]
      have hlt := r_lt (r_63 hw)
      obtain ⟨⟨p0, p1, p2, p3, p4⟩, p5, p6, p7, p8⟩ := hp.1 _ hlt
      have ec : S 4 2 (J 3 0 21 &&& 7).toNatClampNeg = J 4 11 (J 3 0 21 &&& 7).toNatClampNeg := (ha.2.2 _ (r_lt (m_and7 _))).1
      have key : ∀ nx, c_gn S (S 7 (S 2 0 7).toNatClampNeg 0) (S 7 (S 2 0 7).toNatClampNeg 4) (S 2 0 7) = nx → r_R N (c_fx (S 2 0 7).toNatClampNeg 0 S) (m_fk nx J) := by
        intro nx en
        unfold c_fx
        rw [en]
        rw [← s1] at p0 p1 p2 p3 p4 p5 p6 p7 p8
        unfold m_fk
        rw [← s1]
        have b : r_bd (sc_u (sc_u (c_fw (S 2 0 7).toNatClampNeg 0 S) 0 0 3 nx) 2 0 7 nx) (sc_u (sc_u (sc_u (sc_u (sc_u (sc_u (sc_u (sc_u (sc_u (sc_u J 5 0 0 1) 4 12 0 (S 2 0 7)) 4 13 0 (J 4 4 (S 2 0 7).toNatClampNeg)) 4 14 0 (J 4 5 (S 2 0 7).toNatClampNeg)) 4 15 0 (J 4 6 (S 2 0 7).toNatClampNeg)) 4 16 0 (J 4 7 (S 2 0 7).toNatClampNeg)) 4 17 0 (J 4 8 (S 2 0 7).toNatClampNeg)) 4 21 0 0) 3 0 21 nx) 4 18 0 nx) 0 :=
          ⟨(by rw [← p0] at p5; exact p5), (by rw [← p1] at p6; exact p6), (by rw [← p2] at p7; exact p7), (by rw [← p3] at p8; exact p8), p6, p7, p8⟩
        exact ⟨⟨rfl, s2, s3, s4, s5, s6, s7, s8, s9, s10⟩, ha, hp, ⟨⟨⟨rfl, Or.inr rfl, fun _ => ⟨rfl, p0, p1, p2, p3, p4, rfl, rfl, r_le00⟩⟩, t1, t2, t3, t4⟩, b, b1, b2, b3, b4⟩, ⟨fun _ => ⟨rfl, fun z => absurd rfl z⟩, e1, e2, e3, e4⟩, hh⟩
      by_cases hg : m_gf (J 4 4 (J 3 0 21).toNatClampNeg) J
      · rw [if_pos hg]
        refine key _ ?_
        unfold c_gn
        rw [s1, p0, p4, ec, if_pos]
        rcases hg with g | g
        · exact Or.inl g
        · exact Or.inr ⟨g.1, fun z => g.2 (r_lt2.mp z)⟩
      · rw [if_neg hg]
        refine key _ ?_
        unfold c_gn
        rw [s1, p0, p4, ec, if_neg]
        rintro (g | g)
        · exact hg (Or.inl g)
        · exact hg (Or.inr ⟨g.1, fun z => g.2 (r_lt2.mpr z)⟩)
    · rw [if_neg hw, if_neg (show ¬ c_fd (S 2 0 7) by rw [s1]; exact fun z => hw (r_fd.mp z))]
      obtain ⟨_, n0, n1, n2, n3, n4⟩ := id hp
      have en : c_gn S (S 7 64 0) (S 7 64 4) (S 2 0 7) = J 3 0 21 + 1 := by
        unfold c_gn
        rw [n0, s1, if_neg]
        rintro (g | g)
        · exact absurd g (by decide)
        · exact absurd g.1 (by decide)
      unfold c_fx m_fu
      rw [en]
      exact ⟨⟨rfl, s2, s3, s4, s5, s6, s7, s8, s9, s10⟩, ha, hp, ⟨⟨⟨rfl, Or.inr rfl, fun _ => ⟨s1, n0, n1, n2, n3, n4, rfl, rfl, r_le01⟩⟩, t1, t2, t3, t4⟩, ⟨(by show r_O (S 7 64 0); rw [n0]; exact ⟨by decide, by decide⟩), (by show r_B (S 7 64 1); rw [n1]; exact ⟨by decide, by decide⟩), (by show r_B (S 7 64 2); rw [n2]; exact ⟨by decide, by decide⟩), (by show r_B (S 7 64 3); rw [n3]; exact ⟨by decide, by decide⟩), r_B0, r_B0, r_B0⟩, b1, b2, b3, b4⟩, ⟨fun _ => ⟨rfl, fun _ => n0⟩, e1, e2, e3, e4⟩, hh⟩
  · rw [if_neg h0, if_neg (fun z => h0 (t0.1.symm.trans z))]
    exact hR
end
section
theorem r_O_or {x : Int32} (h : r_O x) : ∃ j : Nat, j < 20 ∧ x = nI j := vp_in_of (n := 20) (m_vr h (by decide) (by decide)) (by decide)
theorem r_us {x : Int32} (h : r_O x) : c_us x ↔ m_usD x := by
  obtain ⟨j, hj, rfl⟩ := r_O_or h
  clear h
  revert j
  decide
theorem r_ut {x : Int32} (h : r_O x) : c_ut x ↔ m_utD x := by
  obtain ⟨j, hj, rfl⟩ := r_O_or h
  clear h
  revert j
  decide
theorem r_wcs (x : Int32) : sc_wc x = 1 ∨ sc_wc x = 3 ∨ sc_wc x = 6 := by
  unfold sc_wc
  split
  · exact Or.inr (Or.inl rfl)
  · split
    · exact Or.inr (Or.inr rfl)
    · exact Or.inl rfl
theorem r_work {w k : Int32} (hw : w = 1 ∨ w = 3 ∨ w = 6) (h0 : 0 ≤ k) (h1 : k < w) : (w - k - 1 ≤ 0 ↔ w ≤ k + 1) ∧ (¬ w ≤ k + 1 → 0 ≤ k + 1 ∧ k + 1 < w ∧ w - k - 1 = w - (k + 1)) := by
  have hk : vp_in k 6 := by
    apply vp_in_iff.mpr
    have a := Int32.le_iff_toInt_le.mp h0
    have b := Int32.lt_iff_toInt_lt.mp h1
    rw [show (0 : Int32).toInt = 0 from rfl] at a
    refine ⟨a, ?_⟩
    rcases hw with rfl | rfl | rfl
    · have : (1 : Int32).toInt = 1 := rfl
      omega
    · have : (3 : Int32).toInt = 3 := rfl
      omega
    · have : (6 : Int32).toInt = 6 := rfl
      omega
  obtain ⟨j, hj, rfl⟩ := vp_in_of hk (by decide)
  clear hk
  have hj' : j = 0 ∨ j = 1 ∨ j = 2 ∨ j = 3 ∨ j = 4 ∨ j = 5 := by omega
  clear hj
  rcases hw with rfl | rfl | rfl <;> rcases hj' with rfl | rfl | rfl | rfl | rfl | rfl <;> revert h0 h1 <;> decide
/-- before the move out of REACHED -/
def r_p2 (S J : sc_I) : Prop := J 5 0 2 = 1 → S 0 2 5 = 0 → (¬ S 1 2 0 = 11 → S 0 2 7 = J 4 19 2) ∧ ((S 1 2 0 = 11 ∨ S 1 2 0 = 12) → S 0 2 6 = J 4 20 2 ∧ 0 ≤ S 0 2 6 ∧ S 0 2 6 ≤ 31)
def r_P (N : Nat) (S J : sc_I) : Prop := r_sc S J ∧ r_ar S J ∧ r_pg S J ∧ r_5 S J ∧ (r_e0 S J 0 ∧ r_e0 S J 1 ∧ r_p2 S J ∧ r_e4 S J) ∧ r_h N S J
abbrev m_W (J : sc_I) (l a f v : Int32) : sc_I := sc_u (sc_u (sc_u (sc_u J 3 0 20 l) 4 20 2 a) 4 21 2 f) 4 19 2 v
abbrev c_W (S : sc_I) (w f v a : Int32) : sc_I := sc_u (sc_u (sc_u (sc_u S 0 2 4 w) 0 2 5 f) 0 2 7 v) 0 2 6 a
theorem r_PW {N : Nat} {S J : sc_I} {l w f a v a' v' : Int32} (hR : r_R N S J) (h2 : J 5 0 2 = 1) (hf : 0 ≤ f) (hv : f = 0 → ¬ S 1 2 0 = 11 → v = v') (ha : f = 0 → (S 1 2 0 = 11 ∨ S 1 2 0 = 12) → a = a' ∧ 0 ≤ a ∧ a ≤ 31) : r_P N (c_W S w f v a) (m_W J l a' f v') := by
  obtain ⟨hs, har, hp, ⟨⟨t0, t1, t2, t3, t4⟩, b0, b1, b2, b3, b4⟩, ⟨e0, e1, e2, e3, e4⟩, hh⟩ := id hR
  obtain ⟨q1, q2, q3, q4, q5, q6, q7, q8, q9⟩ := t2.2.2 h2
  exact ⟨hs, har, hp, ⟨⟨t0, t1, ⟨t2.1, t2.2.1, fun _ => ⟨q1, q2, q3, q4, q5, q6, q7, rfl, hf⟩⟩, t3, t4⟩, b0, b1, b2, b3, b4⟩, ⟨e0, e1, fun _ z => ⟨hv z, ha z⟩, e4⟩, hh⟩
theorem r_Pfl {N : Nat} {S J : sc_I} {nx : Int32} (hR : r_P N S J) : r_P N (sc_u (c_em2 (sc_u S 2 0 15 (S 2 0 15 + 1))) 2 0 7 nx) (m_flush nx J) := by
  obtain ⟨⟨s1, s2, s3, s4, s5, s6, s7, s8, s9, s10⟩, har, hp, ⟨⟨t0, t1, t2, t3, t4⟩, b0, b1, b2, b3, b4⟩, ⟨e0, e1, e2, e4⟩, hh⟩ := id hR
  exact ⟨⟨rfl, s2, s3, s4, s5, s6, s7, congrArg (· + 1) s8, s9, s10⟩, har, hp, ⟨⟨⟨rfl, Or.inl rfl, r_z⟩, ⟨rfl, Or.inl rfl, r_z⟩, t2, t3, t4⟩, b0, b1, b2, b3, b4⟩, ⟨r_z, r_z, e2, e4⟩, hh⟩
theorem r_Pct {N k : Nat} {S J : sc_I} {c c' : Int32} (hR : r_P N S J) (hc : c = c') (h0 : 0 ≤ c ∧ c ≤ 3) : r_P N (sc_u S 4 2 k c) (sc_u J 4 11 k c') := by
  subst hc
  obtain ⟨hs, ⟨a1, a2, a3⟩, hp, ⟨⟨t0, t1, t2, t3, t4⟩, b0, b1, b2, b3, b4⟩, ⟨e0, e1, e2, e4⟩, hh⟩ := id hR
  refine ⟨hs, ⟨a1, a2, ?_⟩, hp, ⟨⟨t0, t1, t2, t3, t4⟩, b0, b1, b2, b3, b4⟩, ⟨e0, e1, e2, e4⟩, hh⟩
  intro x hx
  rw [sc_u_at, sc_u_at]
  by_cases e : x = k
  · rw [e, va_up_self, va_up_self]
    exact ⟨rfl, h0⟩
  · rw [va_up_ne _ _ e, va_up_ne _ _ e]
    exact a3 x hx
theorem r_Pmv {N : Nat} {S J : sc_I} (hR : r_P N S J) (h2 : J 5 0 2 = 1) (h3 : J 5 0 3 = 0) : r_R N (c_mv 2 S) (m_move 2 J) := by
  obtain ⟨hs, har, hp, ⟨⟨t0, t1, t2, t3, t4⟩, b0, b1, b2, b3, b4⟩, ⟨e0, e1, e2, e4⟩, hh⟩ := id hR
  have h3' : S 0 3 0 = 0 := t3.1.trans h3
  unfold c_mv
  rw [if_pos (show S 0 (2 + 1) 0 = 0 from h3')]
  exact ⟨hs, har, hp, ⟨⟨t0, t1, ⟨h3', Or.inl rfl, r_z⟩, ⟨t2.1.trans h2, Or.inr rfl, fun _ => t2.2.2 h2⟩, t4⟩, b0, b1, ⟨b3.1, b3.2.1, b3.2.2.1, b3.2.2.2.1, b2.2.2.2.2⟩, b2, b4⟩, ⟨e0, e1, r_z, fun _ => e2 h2, e4⟩, hh⟩
theorem r_cl {v : Int32} (h0 : 0 ≤ v) (h1 : v ≤ 3) : c_cl (v + 1) = m_up v ∧ c_cl (v + -1) = m_dn v ∧ (0 ≤ c_cl (v + 1) ∧ c_cl (v + 1) ≤ 3) ∧ (0 ≤ c_cl (v + -1) ∧ c_cl (v + -1) ≤ 3) := by
  obtain ⟨j, hj, rfl⟩ := vp_in_of (n := 4) (m_vr ⟨h0, h1⟩ (by decide) (by decide)) (by decide)
  clear h0 h1
  revert j
  decide
theorem r_fo0 (op n s t : Int32) : 0 ≤ c_fo op n s t := by
  unfold c_fo
  split
  · decide
  · split
    · decide
    · split <;> decide
theorem r_hd {N : Nat} {S J : sc_I} (hR : r_R N S J) {r : Int32} (hr : vp_in r 16) : c_hd S r = m_rd J r := by
  obtain ⟨hs, ⟨a1, a2, a3⟩, hp, ⟨⟨t0, t1, t2, t3, t4⟩, b0, b1, b2, b3, b4⟩, ⟨e0, e1, e2, e3, e4⟩, hh⟩ := id hR
  unfold c_hd m_rd
  by_cases h0 : J 5 0 4 = 0
  · rw [if_neg (fun z => z.1 (t4.1.trans h0)), if_neg (fun z => z.1 h0)]
    exact a1 _ (r_lt hr)
  · have h01 := r_01 t4.2.1 h0
    obtain ⟨q1, q2, q3, q4, q5, q6, q7, q8, q9⟩ := t4.2.2 h01
    by_cases c : c_wr S 4 r
    · rw [if_pos c, if_pos]
      · exact e4 h01 c.2.1
      · exact ⟨h0, q8.symm.trans c.2.1, by rw [← q2]; exact (r_wd b4.1).mp c.2.2.2.1, q3.symm.trans c.2.2.2.2, c.2.2.1⟩
    · rw [if_neg c, if_neg]
      · exact a1 _ (r_lt hr)
      · intro z
        exact c ⟨fun y => h0 (t4.1.symm.trans y), q8.trans z.2.1, z.2.2.2.2, by rw [q2]; exact (r_wd (q2 ▸ b4.1)).mpr z.2.2.1, q3.trans z.2.2.2.1⟩
end
section
theorem c_fo_0 {op n s t : Int32} (h1 : ¬ op = 17) (h2 : ¬ c_td op) (h3 : ¬ (op = 8 ∧ t = 0)) : c_fo op n s t = 0 := by
  unfold c_fo
  rw [if_neg h1, if_neg (fun z => h2 z.1), if_neg h3]
theorem r_8 {x : Int32} (h : r_O x) (h8 : ¬ 8 < x) : x = 0 ∨ x = 1 ∨ x = 2 ∨ x = 3 ∨ x = 4 ∨ x = 5 ∨ x = 6 ∨ x = 7 ∨ x = 8 := by
  obtain ⟨j, hj, rfl⟩ := r_O_or h
  clear h
  revert h8
  revert j
  decide
theorem r_19 {x : Int32} (h : r_O x) (h8 : 8 < x) (h : ¬ x = 9 ∧ ¬ x = 10 ∧ ¬ (x = 11 ∨ x = 12) ∧ ¬ (x = 13 ∨ x = 14) ∧ ¬ (x = 15 ∨ x = 16) ∧ ¬ x = 17) : x = 18 ∨ x = 19 := by
  rename_i h0
  obtain ⟨j, hj, rfl⟩ := r_O_or h0
  clear h0
  revert h8 h
  revert j
  decide
theorem r_31' {x : Int32} : (0 ≤ x ∧ x ≤ 31) ↔ (0 ≤ x ∧ x < 32) := by
  rw [Int32.lt_iff_toInt_lt, Int32.le_iff_toInt_le, Int32.le_iff_toInt_le, show (0 : Int32).toInt = 0 from rfl, show (31 : Int32).toInt = 31 from rfl, show (32 : Int32).toInt = 32 from rfl]
  omega
theorem m_wk_n {J : sc_I} (ho : r_O (J 4 13 2)) (hb : ¬ (J 4 13 2 = 13 ∨ J 4 13 2 = 14)) : ∃ a f v, m_wkS J = sc_u (sc_u (sc_u J 4 20 2 a) 4 21 2 f) 4 19 2 v ∧ (J 4 21 2 = 0 → f = c_fo (J 4 13 2) (J 4 17 2) (m_rd J (J 4 15 2)) (m_rd J (J 4 16 2))) ∧ (J 4 13 2 = 19 → f = J 4 21 2) ∧ (¬ J 4 13 2 = 11 → v = c_vo (J 4 13 2) (J 4 17 2) (J 4 12 2) (m_rd J (J 4 15 2)) (m_rd J (J 4 16 2))) ∧ ((J 4 13 2 = 11 ∨ J 4 13 2 = 12) → a = m_rd J (J 4 15 2) + J 4 17 2) := by
  unfold m_wkS
  have k : ∀ v, sc_u (sc_u (sc_u J 4 20 2 (J 4 20 2)) 4 21 2 (J 4 21 2)) 4 19 2 v = sc_u J 4 19 2 v := fun v => by rw [sc_u_id J 4 20 2, sc_u_id J 4 21 2]
  have k2 : ∀ f v, sc_u (sc_u (sc_u J 4 20 2 (J 4 20 2)) 4 21 2 f) 4 19 2 v = sc_u (sc_u J 4 21 2 f) 4 19 2 v := fun f v => by rw [sc_u_id J 4 20 2]
  by_cases h8 : 8 < J 4 13 2
  · rw [if_pos h8]
    by_cases h9 : J 4 13 2 = 9
    · rw [if_pos h9]
      refine ⟨J 4 20 2, J 4 21 2, _, (k _).symm, fun z => ?_, fun _ => rfl, fun _ => ?_, fun z => ?_⟩
      · rw [z, h9, c_fo_0 (by decide) (by decide) (fun z => absurd z.1 (by decide))]
      · rw [h9]; rfl
      · rw [h9] at z; exact absurd z (by decide)
    rw [if_neg h9]
    by_cases h10 : J 4 13 2 = 10
    · rw [if_pos h10]
      refine ⟨J 4 20 2, J 4 21 2, _, (k _).symm, fun z => ?_, fun _ => rfl, fun _ => ?_, fun z => ?_⟩
      · rw [z, h10, c_fo_0 (by decide) (by decide) (fun z => absurd z.1 (by decide))]
      · rw [h10]; rfl
      · rw [h10] at z; exact absurd z (by decide)
    rw [if_neg h10]
    by_cases h11 : J 4 13 2 = 11 ∨ J 4 13 2 = 12
    · rw [if_pos h11]
      refine ⟨_, _, _, rfl, fun z => ?_, fun z => ?_, fun z => ?_, fun _ => rfl⟩
      · have hd : c_td (J 4 13 2) := h11
        have h17 : ¬ J 4 13 2 = 17 := fun e => by rw [e] at h11; exact absurd h11 (by decide)
        have h8' : ¬ J 4 13 2 = 8 := fun e => by rw [e] at h11; exact absurd h11 (by decide)
        unfold c_fo
        rw [if_neg h17, z]
        by_cases hr : 0 ≤ m_rd J (J 4 15 2) + J 4 17 2 ∧ m_rd J (J 4 15 2) + J 4 17 2 ≤ 31
        · rw [if_pos hr, if_neg (fun y => y.2 (r_31'.mp hr)), if_neg (fun y => h8' y.1)]
        · rw [if_neg hr, if_pos ⟨hd, fun y => hr (r_31'.mpr y)⟩]
      · rw [z] at h11; exact absurd h11 (by decide)
      · have h12 := h11.resolve_left z
        rw [h12]; rfl
    rw [if_neg h11, if_neg hb]
    by_cases h15 : J 4 13 2 = 15 ∨ J 4 13 2 = 16
    · rw [if_pos h15]
      refine ⟨J 4 20 2, J 4 21 2, _, (k _).symm, fun z => ?_, fun _ => rfl, fun _ => ?_, fun z => ?_⟩
      · rw [z]
        rcases h15 with e | e <;> rw [e, c_fo_0 (by decide) (by decide) (fun z => absurd z.1 (by decide))]
      · rcases h15 with e | e <;> rw [e] <;> rfl
      · exact absurd z h11
    rw [if_neg h15]
    by_cases h17 : J 4 13 2 = 17
    · rw [if_pos h17]
      refine ⟨J 4 20 2, 2, 0, (k2 _ _).symm, fun z => ?_, fun z => ?_, fun _ => ?_, fun z => ?_⟩
      · rw [h17]; rfl
      · rw [h17] at z; exact absurd z (by decide)
      · rw [h17]; rfl
      · exact absurd z h11
    rw [if_neg h17]
    have h18 := r_19 ho h8 ⟨h9, h10, h11, hb, h15, h17⟩
    refine ⟨J 4 20 2, J 4 21 2, _, (k _).symm, fun z => ?_, fun _ => rfl, fun _ => ?_, fun z => ?_⟩
    · rw [z]
      rcases h18 with e | e <;> rw [e, c_fo_0 (by decide) (by decide) (fun z => absurd z.1 (by decide))]
    · rcases h18 with e | e <;> rw [e] <;> rfl
    · exact absurd z h11
  · rw [if_neg h8]
    have hs := r_8 ho h8
    refine ⟨J 4 20 2, _, _, (k2 _ _).symm, fun z => ?_, fun z => ?_, fun _ => ?_, fun z => ?_⟩
    · by_cases c : J 4 13 2 = 8 ∧ m_rd J (J 4 16 2) = 0
      · rw [if_pos c]
        unfold c_fo
        rw [if_neg (by rw [c.1]; decide), if_neg (fun y => absurd y.1 (by rw [c.1]; decide)), if_pos c]
      · rw [if_neg c, z, c_fo_0 (fun e => h8 (by rw [e]; decide)) (fun e => h8 (by rcases e with e | e <;> rw [e] <;> decide)) c]
    · exact absurd (show (8 : Int32) < J 4 13 2 by rw [z]; decide) h8
    · rcases hs with e | e | e | e | e | e | e | e | e <;> rw [e] <;> rfl
    · exact absurd (show (8 : Int32) < J 4 13 2 by rcases z with e | e <;> rw [e] <;> decide) h8
def c_N (op n pl s t : Int32) : Int32 := if c_go op s t then c_tg op n pl s else pl + 1
theorem r_go {op s t : Int32} (h : op = 13 ∨ op = 14) : m_go op s t ↔ c_go op s t := by
  rcases h with rfl | rfl
  · constructor
    · rintro (a | a)
      · exact Or.inl ⟨rfl, a.1⟩
      · exact absurd rfl a.2
    · rintro (a | a | a | a)
      · exact Or.inl ⟨a.2, rfl⟩
      · exact absurd a.1 (by decide)
      · exact absurd a (by decide)
      · exact absurd a (by decide)
  · constructor
    · rintro (a | a)
      · exact absurd a.2 (by decide)
      · exact Or.inr (Or.inl ⟨rfl, a.1⟩)
    · rintro (a | a | a | a)
      · exact absurd a.1 (by decide)
      · exact Or.inr ⟨a.2, by decide⟩
      · exact absurd a (by decide)
      · exact absurd a (by decide)
theorem r_nx (J : sc_I) : m_wkN J = c_N (J 4 13 2) (J 4 17 2) (J 4 12 2) (m_rd J (J 4 15 2)) (m_rd J (J 4 16 2)) := by
  unfold m_wkN c_N c_tg
  by_cases hb : J 4 13 2 = 13 ∨ J 4 13 2 = 14
  · have h16 : ¬ J 4 13 2 = 16 := fun e => by rw [e] at hb; exact absurd hb (by decide)
    rw [if_pos hb, if_neg h16]
    by_cases g : m_go (J 4 13 2) (m_rd J (J 4 15 2)) (m_rd J (J 4 16 2))
    · rw [if_pos g, if_pos ((r_go hb).mp g)]
    · rw [if_neg g, if_neg (fun z => g ((r_go hb).mpr z))]
  rw [if_neg hb]
  by_cases h15 : J 4 13 2 = 15
  · rw [if_pos h15, if_pos (Or.inr (Or.inr (Or.inl h15))), if_neg (by rw [h15]; decide)]
  rw [if_neg h15]
  by_cases h16 : J 4 13 2 = 16
  · rw [if_pos h16, if_pos (Or.inr (Or.inr (Or.inr h16))), if_pos h16]
  rw [if_neg h16, if_neg]
  rintro (a | a | a | a)
  · exact hb (Or.inl a.1)
  · exact hb (Or.inr a.1)
  · exact h15 a
  · exact h16 a
theorem r_Phm {N : Nat} {S J : sc_I} {nx nx' : Int32} (hR : r_P N S J) (h2 : J 5 0 2 = 1) (h3 : J 5 0 3 = 0) (hf : S 0 2 5 = 0) (en : nx = nx') : r_R N (c_mv 2 (c_hold nx S)) (m_move 2 (if J 4 21 2 = 0 ∧ ¬ nx' = J 4 18 2 then m_flush nx' J else J)) := by
  subst en
  obtain ⟨q1, q2, q3, q4, q5, q6, q7, q8, q9⟩ := hR.2.2.2.1.1.2.2.1.2.2 h2
  unfold c_hold
  by_cases c : nx = S 0 2 3
  · rw [if_pos c, if_neg (fun z => z.2 (c.trans q7))]
    exact r_Pmv hR h2 h3
  · rw [if_neg c, if_pos ⟨q8.symm.trans hf, fun z => c (z.trans q7.symm)⟩]
    exact r_Pmv (r_Pfl hR) h2 h3
theorem r_Pm0 {N : Nat} {S J : sc_I} {nx : Int32} (hR : r_P N S J) (h2 : J 5 0 2 = 1) (h3 : J 5 0 3 = 0) (hf : ¬ J 4 21 2 = 0) : r_R N (c_mv 2 S) (m_move 2 (if J 4 21 2 = 0 ∧ ¬ nx = J 4 18 2 then m_flush nx J else J)) := by
  rw [if_neg (fun z => hf z.1)]
  exact r_Pmv hR h2 h3
theorem r_fin {N : Nat} {S J : sc_I} {w l : Int32} (hR : r_R N S J) (h2 : J 5 0 2 = 1) (h3 : J 5 0 3 = 0) : r_R N (c_mv 2 (c_fin (sc_u S 0 2 4 w))) (m_fin (sc_u J 3 0 20 l)) := by
  obtain ⟨hs, ⟨a1, a2, a3⟩, hp, ⟨⟨t0, t1, t2, t3, t4⟩, b0, b1, b2, b3, b4⟩, ⟨e0, e1, e2, e3, e4⟩, hh⟩ := id hR
  obtain ⟨q1, q2, q3, q4, q5, q6, q7, q8, q9⟩ := t2.2.2 h2
  obtain ⟨g1, g2⟩ := e2 h2
  have es : c_fs (sc_u S 0 2 4 w) = m_rd (sc_u J 3 0 20 l) (J 4 15 2) := by
    have h := r_hd hR (r_Bv b2.2.2.1)
    rw [q4] at h
    show c_hd S (S 1 2 2) = m_rd J (J 4 15 2)
    rw [q4]
    exact h
  have et : c_ft (sc_u S 0 2 4 w) = m_rd (sc_u J 3 0 20 l) (J 4 16 2) := by
    have h := r_hd hR (r_Bv b2.2.2.2.1)
    rw [q5] at h
    show c_hd S (S 1 2 3) = m_rd J (J 4 16 2)
    rw [q5]
    exact h
  have hO : r_O (J 4 13 2) := q2 ▸ b2.1
  have en : c_nx (sc_u S 0 2 4 w) = m_wkN (sc_u J 3 0 20 l) := by
    rw [r_nx]
    show c_N (S 1 2 0) (S 1 2 4) (S 0 2 2) (c_fs (sc_u S 0 2 4 w)) (c_ft (sc_u S 0 2 4 w)) = _
    rw [q2, q6, q1, es, et]
    rfl
  have ef : c_fo (S 1 2 0) (S 1 2 4) (c_fs (sc_u S 0 2 4 w)) (c_ft (sc_u S 0 2 4 w)) = c_fo (J 4 13 2) (J 4 17 2) (m_rd (sc_u J 3 0 20 l) (J 4 15 2)) (m_rd (sc_u J 3 0 20 l) (J 4 16 2)) := by
    rw [q2, q6, es, et]
  have ev : c_vo (S 1 2 0) (S 1 2 4) (S 0 2 2) (c_fs (sc_u S 0 2 4 w)) (c_ft (sc_u S 0 2 4 w)) = c_vo (J 4 13 2) (J 4 17 2) (J 4 12 2) (m_rd (sc_u J 3 0 20 l) (J 4 15 2)) (m_rd (sc_u J 3 0 20 l) (J 4 16 2)) := by
    rw [q2, q6, q1, es, et]
  have kS : ∀ f, c_W S w f (S 0 2 7) (S 0 2 6) = sc_u (sc_u S 0 2 4 w) 0 2 5 f := by
    intro f
    have k1 : sc_u (sc_u (sc_u S 0 2 4 w) 0 2 5 f) 0 2 7 (S 0 2 7) = sc_u (sc_u S 0 2 4 w) 0 2 5 f := sc_u_id (sc_u (sc_u S 0 2 4 w) 0 2 5 f) 0 2 7
    show sc_u (sc_u (sc_u (sc_u S 0 2 4 w) 0 2 5 f) 0 2 7 (S 0 2 7)) 0 2 6 (S 0 2 6) = _
    rw [k1]
    exact sc_u_id (sc_u (sc_u S 0 2 4 w) 0 2 5 f) 0 2 6
  unfold m_fin
  by_cases hb : J 4 13 2 = 13 ∨ J 4 13 2 = 14
  · have hb' : c_br (S 1 2 0) := by rw [q2]; exact hb
    have hf : S 0 2 5 = 0 := Classical.byContradiction fun z => by
      have := g1 z
      rw [this] at hb'
      exact absurd hb' (by decide)
    have hfo : c_fo (S 1 2 0) (S 1 2 4) (c_fs (sc_u S 0 2 4 w)) (c_ft (sc_u S 0 2 4 w)) = 0 := by
      refine c_fo_0 (fun e => ?_) (fun e => ?_) (fun e => ?_)
      · rw [e] at hb'; exact absurd hb' (by decide)
      · rcases e with e | e <;> rw [e] at hb' <;> exact absurd hb' (by decide)
      · rw [e.1] at hb'; exact absurd hb' (by decide)
    have h11 : ¬ (S 1 2 0 = 11 ∨ S 1 2 0 = 12) := fun e => by
      rcases e with e | e <;> rw [e] at hb' <;> exact absurd hb' (by decide)
    have hj : J 4 21 2 = 0 := q8.symm.trans hf
    have hv : c_vo (S 1 2 0) (S 1 2 4) (S 0 2 2) (c_fs (sc_u S 0 2 4 w)) (c_ft (sc_u S 0 2 4 w)) = 0 := by
      rcases hb' with e | e <;> rw [e] <;> rfl
    have kc : (J 4 12 2 &&& 7).toNatClampNeg < 8 := r_lt (m_and7 _)
    obtain ⟨c1, c2, c3⟩ := a3 _ kc
    obtain ⟨l1, l2, l3, l4⟩ := r_cl c2 c3
    have eJ : m_wkS (sc_u J 3 0 20 l) = sc_u (m_W J l (J 4 20 2) 0 0) 4 11 (J 4 12 2 &&& 7).toNatClampNeg (if m_go (J 4 13 2) (m_rd (sc_u J 3 0 20 l) (J 4 15 2)) (m_rd (sc_u J 3 0 20 l) (J 4 16 2)) then m_up (J 4 11 (J 4 12 2 &&& 7).toNatClampNeg) else m_dn (J 4 11 (J 4 12 2 &&& 7).toNatClampNeg)) := by
      have k1 : sc_u (sc_u J 3 0 20 l) 4 20 2 (J 4 20 2) = sc_u J 3 0 20 l := sc_u_id (sc_u J 3 0 20 l) 4 20 2
      have k2 : sc_u (sc_u J 3 0 20 l) 4 21 2 0 = sc_u J 3 0 20 l := by
        have := sc_u_id (sc_u J 3 0 20 l) 4 21 2
        rw [show sc_u J 3 0 20 l 4 21 2 = 0 from hj] at this
        exact this
      have n1 : (8 : Int32) < J 4 13 2 := by rcases hb with e | e <;> rw [e] <;> decide
      have n2 : ¬ J 4 13 2 = 9 := fun e => by rw [e] at hb; exact absurd hb (by decide)
      have n3 : ¬ J 4 13 2 = 10 := fun e => by rw [e] at hb; exact absurd hb (by decide)
      have n4 : ¬ (J 4 13 2 = 11 ∨ J 4 13 2 = 12) := by rw [← q2]; exact h11
      unfold m_W
      rw [k1, k2, sc_u_comm _ (by decide)]
      unfold m_wkS
      rw [if_pos (show (8 : Int32) < sc_u J 3 0 20 l 4 13 2 from n1), if_neg (show ¬ sc_u J 3 0 20 l 4 13 2 = 9 from n2), if_neg (show ¬ sc_u J 3 0 20 l 4 13 2 = 10 from n3), if_neg (show ¬ (sc_u J 3 0 20 l 4 13 2 = 11 ∨ sc_u J 3 0 20 l 4 13 2 = 12) from n4), if_pos (show sc_u J 3 0 20 l 4 13 2 = 13 ∨ sc_u J 3 0 20 l 4 13 2 = 14 from hb)]
      rfl
    have hg : m_go (J 4 13 2) (m_rd (sc_u J 3 0 20 l) (J 4 15 2)) (m_rd (sc_u J 3 0 20 l) (J 4 16 2)) ↔ c_go (S 1 2 0) (c_fs (sc_u S 0 2 4 w)) (c_ft (sc_u S 0 2 4 w)) := by
      rw [es, et, q2]
      exact r_go hb
    have main : ∀ g c : Int32, c_cl (S 4 2 (J 4 12 2 &&& 7).toNatClampNeg + g) = c → (0 ≤ c ∧ c ≤ 3) → r_R N (c_mv 2 (c_hold (c_nx (sc_u S 0 2 4 w)) (c_ln (S 0 2 2) g (c_f2 (sc_u S 0 2 4 w))))) (m_move 2 (if sc_u (m_W J l (J 4 20 2) 0 0) 4 11 (J 4 12 2 &&& 7).toNatClampNeg c 4 21 2 = 0 ∧ ¬ m_wkN (sc_u J 3 0 20 l) = sc_u (m_W J l (J 4 20 2) 0 0) 4 11 (J 4 12 2 &&& 7).toNatClampNeg c 4 18 2 then m_flush (m_wkN (sc_u J 3 0 20 l)) (sc_u (m_W J l (J 4 20 2) 0 0) 4 11 (J 4 12 2 &&& 7).toNatClampNeg c) else sc_u (m_W J l (J 4 20 2) 0 0) 4 11 (J 4 12 2 &&& 7).toNatClampNeg c)) := by
      intro g c hc h0
      have eS : c_f2 (sc_u S 0 2 4 w) = c_W S w 0 0 (if c_td (S 1 2 0) then c_fs (sc_u S 0 2 4 w) + S 1 2 4 else 0) := by
        show c_W S w (c_fo (S 1 2 0) (S 1 2 4) (c_fs (sc_u S 0 2 4 w)) (c_ft (sc_u S 0 2 4 w))) (c_vo (S 1 2 0) (S 1 2 4) (S 0 2 2) (c_fs (sc_u S 0 2 4 w)) (c_ft (sc_u S 0 2 4 w))) _ = _
        rw [hfo, hv]
        rfl
      rw [eS]
      unfold c_ln
      rw [q1]
      refine r_Phm (r_Pct (r_PW hR h2 (by decide) (fun _ _ => rfl) (fun _ z => absurd z h11)) ?_ ?_) h2 h3 rfl en
      · exact hc
      · rw [← hc] at h0
        exact h0
    unfold c_fin
    rw [if_pos (show sc_u S 0 2 4 w 0 2 5 = 0 from hf), if_pos (show c_fo (sc_u S 0 2 4 w 1 2 0) (sc_u S 0 2 4 w 1 2 4) (c_fs (sc_u S 0 2 4 w)) (c_ft (sc_u S 0 2 4 w)) = 0 from hfo)]
    unfold c_f3
    rw [if_pos (show c_br (sc_u S 0 2 4 w 1 2 0) from hb'), eJ]
    by_cases hgo : c_go (S 1 2 0) (c_fs (sc_u S 0 2 4 w)) (c_ft (sc_u S 0 2 4 w))
    · rw [if_pos (hg.mpr hgo), if_pos (show c_go (sc_u S 0 2 4 w 1 2 0) _ _ from hgo)]
      exact main 1 _ (by rw [l1, c1]) (by rw [← c1, ← l1]; exact l3)
    · rw [if_neg (fun z => hgo (hg.mp z)), if_neg (show ¬ c_go (sc_u S 0 2 4 w 1 2 0) _ _ from hgo)]
      exact main (-1) _ (by rw [l2, c1]) (by rw [← c1, ← l2]; exact l4)
  · obtain ⟨a, f, v, e, f1, f2, f3, f4⟩ := m_wk_n (J := sc_u J 3 0 20 l) hO hb
    have hb' : ¬ c_br (S 1 2 0) := by rw [q2]; exact hb
    rw [e]
    unfold c_fin
    by_cases hf : S 0 2 5 = 0
    · have hj : J 4 21 2 = 0 := q8.symm.trans hf
      have ff : f = c_fo (S 1 2 0) (S 1 2 4) (c_fs (sc_u S 0 2 4 w)) (c_ft (sc_u S 0 2 4 w)) := (f1 hj).trans ef.symm
      have hf0 : 0 ≤ f := by rw [ff]; exact r_fo0 _ _ _ _
      rw [if_pos (show sc_u S 0 2 4 w 0 2 5 = 0 from hf)]
      by_cases hfo : f = 0
      · rw [if_pos (show c_fo (sc_u S 0 2 4 w 1 2 0) (sc_u S 0 2 4 w 1 2 4) (c_fs (sc_u S 0 2 4 w)) (c_ft (sc_u S 0 2 4 w)) = 0 from ff.symm.trans hfo)]
        unfold c_f3
        rw [if_neg (show ¬ c_br (sc_u S 0 2 4 w 1 2 0) from hb')]
        have eS : c_f2 (sc_u S 0 2 4 w) = c_W S w f (c_vo (S 1 2 0) (S 1 2 4) (S 0 2 2) (c_fs (sc_u S 0 2 4 w)) (c_ft (sc_u S 0 2 4 w))) (if c_td (S 1 2 0) then c_fs (sc_u S 0 2 4 w) + S 1 2 4 else 0) := by
          rw [ff]
          rfl
        rw [eS]
        refine r_Phm (r_PW hR h2 hf0 (fun _ z => ?_) (fun _ z => ?_)) h2 h3 hfo en
        · rw [ev]
          exact (f3 (fun y => z (q2.trans y))).symm
        · rw [if_pos (show c_td (S 1 2 0) from z), es, q6]
          have z' : J 4 13 2 = 11 ∨ J 4 13 2 = 12 := by rw [← q2]; exact z
          refine ⟨(f4 z').symm, ?_⟩
          have hz : c_fo (J 4 13 2) (J 4 17 2) (m_rd (sc_u J 3 0 20 l) (J 4 15 2)) (m_rd (sc_u J 3 0 20 l) (J 4 16 2)) = 0 := (f1 hj).symm.trans hfo
          apply Classical.byContradiction
          intro y
          unfold c_fo at hz
          rw [if_neg (fun e => by rw [e] at z'; exact absurd z' (by decide)), if_pos ⟨z', fun x => y (r_31'.mpr x)⟩] at hz
          exact absurd hz (by decide)
      · rw [if_neg (show ¬ c_fo (sc_u S 0 2 4 w 1 2 0) (sc_u S 0 2 4 w 1 2 4) (c_fs (sc_u S 0 2 4 w)) (c_ft (sc_u S 0 2 4 w)) = 0 from fun x => hfo (ff.trans x))]
        have eS : c_f1 (sc_u S 0 2 4 w) = c_W S w f (S 0 2 7) (S 0 2 6) := by
          rw [kS, ff]
          rfl
        rw [eS]
        exact r_Pm0 (r_PW hR h2 hf0 (fun y => absurd y hfo) (fun y => absurd y hfo)) h2 h3 hfo
    · rw [if_neg (show ¬ sc_u S 0 2 4 w 0 2 5 = 0 from hf)]
      have h19 : J 4 13 2 = 19 := q2.symm.trans (g1 hf)
      have ff : f = S 0 2 5 := (f2 h19).trans q8.symm
      have eS : sc_u S 0 2 4 w = c_W S w f (S 0 2 7) (S 0 2 6) := by
        rw [kS, ff]
        exact (sc_u_id (sc_u S 0 2 4 w) 0 2 5).symm
      have hn : ¬ f = 0 := fun y => hf (ff.symm.trans y)
      rw [eS]
      exact r_Pm0 (r_PW hR h2 (by rw [ff]; exact q9) (fun y => absurd y hn) (fun y => absurd y hn)) h2 h3 hn
theorem r_nl {N : Nat} {S J : sc_I} (hR : r_R N S J) (h2 : J 5 0 2 = 1) : c_nl S ↔ m_wt J (m_q J) := by
  obtain ⟨hs, ha, hp, ⟨⟨t0, t1, t2, t3, t4⟩, b0, b1, b2, b3, b4⟩, he, hh⟩ := id hR
  obtain ⟨q1, q2, q3, q4, q5, q6, q7, q8, q9⟩ := t2.2.2 h2
  have hO : r_O (J 4 13 2) := q2 ▸ b2.1
  by_cases h0 : J 5 0 4 = 0
  · have : m_q J = 0 := if_neg (fun z => z.1 h0)
    rw [this]
    exact ⟨fun z => absurd (t4.1.trans h0) z.1.1, fun z => absurd rfl z.1⟩
  · have h01 := r_01 t4.2.1 h0
    obtain ⟨p1, p2, p3, p4, p5, p6, p7, p8, p9⟩ := t4.2.2 h01
    by_cases c : J 4 13 4 = 11 ∧ J 4 21 4 = 0
    · have hq : m_q J = J 4 14 4 := if_pos ⟨h0, c⟩
      have h0' : ¬ S 0 4 0 = 0 := fun z => h0 (t4.1.symm.trans z)
      have hw : c_wd (S 1 4 0) := by rw [p2, c.1]; decide
      rw [hq, ← p3]
      constructor
      · rintro ⟨_, (z | z)⟩
        · refine ⟨by rw [z.2.2.2.2.2]; exact z.2.2.2.1, Or.inl ⟨(r_us hO).mp (q2 ▸ z.1), by rw [← q4]; exact z.2.2.2.2.2.symm⟩⟩
        · refine ⟨by rw [z.2.2.2.2.2]; exact z.2.2.2.1, Or.inr ⟨(r_ut hO).mp (q2 ▸ z.1), by rw [← q5]; exact z.2.2.2.2.2.symm⟩⟩
      · rintro ⟨y, (z | z)⟩
        · refine ⟨⟨h0', p8.trans c.2, p2.trans c.1⟩, Or.inl ⟨by rw [q2]; exact (r_us hO).mpr z.1, h0', p8.trans c.2, by rw [q4, z.2]; exact y, hw, by rw [q4, z.2]⟩⟩
        · refine ⟨⟨h0', p8.trans c.2, p2.trans c.1⟩, Or.inr ⟨by rw [q2]; exact (r_ut hO).mpr z.1, h0', p8.trans c.2, by rw [q5, z.2]; exact y, hw, by rw [q5, z.2]⟩⟩
    · have hq : m_q J = 0 := if_neg (fun z => c z.2)
      rw [hq]
      exact ⟨fun z => absurd ⟨p2.symm.trans z.1.2.2, p8.symm.trans z.1.2.1⟩ c, fun z => absurd rfl z.1⟩
theorem r_rch {N : Nat} {S J : sc_I} (hR : r_R N S J) (h3 : J 5 0 3 = 0) : r_R N (c_rch S) (m_rch (m_q J) J) := by
  obtain ⟨⟨s1, s2, s3, s4, s5, s6, s7, s8, s9, s10⟩, ha, hp, ⟨⟨t0, t1, t2, t3, t4⟩, b0, b1, b2, b3, b4⟩, ⟨e0, e1, e2, e3, e4⟩, hh⟩ := id hR
  unfold c_rch m_rch
  by_cases h0 : J 5 0 2 = 0
  · rw [if_pos h0, if_pos (t2.1.trans h0)]
    exact hR
  have h2 := r_01 t2.2.1 h0
  rw [if_neg h0, if_neg (fun z => h0 (t2.1.symm.trans z))]
  by_cases hn : m_wt J (m_q J)
  · rw [if_pos hn, if_pos ((r_nl hR h2).mpr hn)]
    exact ⟨⟨s1, s2, s3, s4, s5, s6, congrArg (· + 1) s7, s8, s9, s10⟩, ha, hp, ⟨⟨t0, t1, t2, t3, t4⟩, b0, b1, b2, b3, b4⟩, ⟨e0, e1, e2, e3, e4⟩, hh⟩
  rw [if_neg hn, if_neg (fun z => hn ((r_nl hR h2).mp z))]
  obtain ⟨g1, g2, g3, g4⟩ := e2 h2
  obtain ⟨w1, w2⟩ := r_work (r_wcs (S 1 2 0)) g2 g3
  by_cases hl : sc_wc (S 1 2 0) ≤ S 0 2 4 + 1
  · rw [if_pos hl, if_pos (show J 3 0 20 - 1 ≤ 0 by rw [g4]; exact w1.mpr hl)]
    exact r_fin hR h2 h3
  · rw [if_neg hl, if_neg (show ¬ J 3 0 20 - 1 ≤ 0 by rw [g4]; exact fun z => hl (w1.mp z))]
    obtain ⟨w3, w4, w5⟩ := w2 hl
    exact ⟨⟨s1, s2, s3, s4, s5, s6, congrArg (· + 1) s7, s8, s9, s10⟩, ha, hp, ⟨⟨t0, t1, t2, t3, t4⟩, b0, b1, b2, b3, b4⟩, ⟨e0, e1, fun _ => ⟨g1, w3, w4, by
      show J 3 0 20 - 1 = sc_wc (S 1 2 0) - (S 0 2 4 + 1)
      rw [g4, w5]⟩, e3, e4⟩, hh⟩
end
section
theorem r_up {N M : Nat} {S J : sc_I} (h : r_R N S J) (hN : N ≤ M) : r_R M S J := by
  obtain ⟨h1, h2, h3, h4, h5, h0, n, hn, h6⟩ := h
  exact ⟨h1, h2, h3, h4, h5, h0, n, by omega, h6⟩
theorem r_a3 {N : Nat} {S J : sc_I} (h : r_R N S J) : ((c_do S 3 11 ∨ c_do S 3 12) → vp_in (S 0 3 6) 32) ∧ (¬ J 5 0 3 = 0 → J 4 21 3 = 0 → (J 4 13 3 = 11 ∨ J 4 13 3 = 12) → vp_in (J 4 20 3) 32) := by
  obtain ⟨hs, ha, hp, ⟨⟨t0, t1, t2, t3, t4⟩, hb⟩, ⟨e0, e1, e2, e3, e4⟩, hh⟩ := id h
  have key : ¬ J 5 0 3 = 0 → S 0 3 5 = 0 → (S 1 3 0 = 11 ∨ S 1 3 0 = 12) → S 0 3 6 = J 4 20 3 ∧ vp_in (S 0 3 6) 32 := by
    intro h0 hf ho
    obtain ⟨g1, g2⟩ := (e3 (r_01 t3.2.1 h0) hf).2 ho
    exact ⟨g1, r_31 g2⟩
  constructor
  · rintro (z | z)
    · exact (key (fun y => z.1 (t3.1.trans y)) z.2.1 (Or.inl z.2.2)).2
    · exact (key (fun y => z.1 (t3.1.trans y)) z.2.1 (Or.inr z.2.2)).2
  · intro h0 hf ho
    obtain ⟨q1, q2, q3, q4, q5, q6, q7, q8, q9⟩ := t3.2.2 (r_01 t3.2.1 h0)
    obtain ⟨g1, g2⟩ := key h0 (q8.trans hf) (by rw [q2]; exact ho)
    rw [← g1]
    exact g2
theorem c_mem_2 (S : sc_I) : c_mem S 1 2 2 = S 1 2 2 ∧ c_mem S 1 2 3 = S 1 2 3 := by
  unfold c_mem c_mv
  split
  · split <;> exact ⟨rfl, rfl⟩
  · split
    · split <;> exact ⟨rfl, rfl⟩
    · split <;> exact ⟨rfl, rfl⟩
theorem m_rem_2 (J : sc_I) : m_rem J 4 15 2 = J 4 15 2 ∧ m_rem J 4 16 2 = J 4 16 2 := by
  unfold m_rem
  split
  · exact ⟨rfl, rfl⟩
  · split
    · split
      · exact ⟨rfl, rfl⟩
      · split <;> exact ⟨rfl, rfl⟩
    · exact ⟨rfl, rfl⟩
theorem r_rmv {N : Nat} {S J : sc_I} (hR : r_R N S J) (hN : N < 2 ^ 30) : vp_in (c_rm (S 2 0 13)) 16 := by
  obtain ⟨h1, h2, h3, h4, h5, h0, n, hn, h6, h7⟩ := hR
  rw [h0, h6, r_rm (by omega)]
  exact vp_in_nI (Nat.mod_lt _ (by decide)) (by decide)
/-- a cycle -/
theorem r_cyc {N : Nat} {S J : sc_I} (hR : r_R N S J) (hN : N < 2 ^ 30) : c_ok S ∧ m_ok J ∧ r_R (N + 1) (c_cyc S) (m_cyc J) := by
  have hT := r_tick hR
  obtain ⟨he, hL, h4⟩ := r_lv hT hN
  have hb := hR.2.2.2.1.2.2.2.2.2
  have hb2 := hL.2.2.2.1.2.2.2.1
  refine ⟨⟨r_Bv hb.2.1, r_rmv hR hN, (r_a3 hL).1, ?_, ?_⟩, ⟨r_Bv hb.2.2.2.2.1, ?_, ?_⟩, ?_⟩
  · rw [(c_mem_2 _).1]
    exact r_Bv hb2.2.2.1
  · rw [(c_mem_2 _).2]
    exact r_Bv hb2.2.2.2.1
  · rintro J' rfl
    rw [(m_rem_2 _).1, (m_rem_2 _).2]
    exact ⟨r_Bv hb2.2.2.2.2.2.1, r_Bv hb2.2.2.2.2.2.2⟩
  · rintro J' rfl
    exact (r_a3 hL).2
  · unfold c_cyc m_cyc
    by_cases c : m_end (m_tick J)
    · rw [if_pos c, if_pos (he.mpr c)]
      exact hL
    · rw [if_neg c, if_neg (fun z => c (he.mp z))]
      obtain ⟨hM, h3⟩ := r_mem hL (h4 c)
      have hq := (m_q_rem (h4 c)).trans (m_q_lv c)
      rw [← hq]
      exact r_ft (r_mv0 (r_mv1 (r_rch hM h3)))
/-- cycles -/
theorem r_run : ∀ (n N : Nat) (S J : sc_I), r_R N S J → N + n < 2 ^ 30 → c_oks n S ∧ m_oks n J ∧ r_R (N + n) (c_run n S) (m_run n J) := by
  intro n
  induction n with
  | zero => exact fun N S J hR _ => ⟨trivial, trivial, hR⟩
  | succ n ih =>
    intro N S J hR hN
    have e : S 2 0 11 = J 3 0 25 := hR.1.2.2.2.2.1
    unfold c_oks m_oks c_run m_run
    by_cases c : J 3 0 25 = 0
    · obtain ⟨h1, h2, h3⟩ := r_cyc hR (by omega)
      obtain ⟨i1, i2, i3⟩ := ih (N + 1) _ _ h3 (by omega)
      rw [if_pos c, if_pos (e.trans c)]
      refine ⟨fun _ => ⟨h1, i1⟩, fun _ => ⟨h2, i2⟩, ?_⟩
      rw [show N + (n + 1) = N + 1 + n by omega]
      exact i3
    · rw [if_neg c, if_neg (fun z => c (e.symm.trans z))]
      exact ⟨fun z => absurd (e.symm.trans z) c, fun z => absurd z c, r_up hR (by omega)⟩
/-! the other calls -/
theorem r_thr {N : Nat} {S J : sc_I} {v : Int32} (hR : r_R N S J) : r_R N S (sc_u J 3 0 0 v) := by
  obtain ⟨h1, h2, h3, ⟨⟨t0, t1, t2, t3, t4⟩, b0, b1, b2, b3, b4⟩, ⟨e0, e1, e2, e3, e4⟩, h6⟩ := hR
  exact ⟨h1, h2, h3, ⟨⟨t0, t1, t2, t3, t4⟩, b0, b1, b2, b3, b4⟩, ⟨e0, e1, e2, e3, e4⟩, h6⟩
theorem r_poke {N k : Nat} {S J : sc_I} {v : Int32} (hR : r_R N S J) : r_R N (sc_u S 4 0 k v) (sc_u J 4 9 k v) := by
  obtain ⟨h1, ⟨a1, a2, a3⟩, h3, ⟨⟨t0, t1, t2, t3, t4⟩, b0, b1, b2, b3, b4⟩, ⟨e0, e1, e2, e3, e4⟩, h6⟩ := hR
  refine ⟨h1, ⟨a1, ?_, a3⟩, h3, ⟨⟨t0, t1, t2, t3, t4⟩, b0, b1, b2, b3, b4⟩, ⟨e0, e1, e2, e3, e4⟩, h6⟩
  rw [sc_u_at, sc_u_at]
  exact r_up_row a2 rfl
theorem r_set {N k : Nat} {S J : sc_I} {v : Int32} (hR : r_R N S J) : r_R N (sc_u S 4 1 k v) (sc_u J 4 10 k v) := by
  obtain ⟨h1, ⟨a1, a2, a3⟩, h3, ⟨⟨t0, t1, t2, t3, t4⟩, b0, b1, b2, b3, b4⟩, ⟨e0, e1, e2, e3, e4⟩, h6⟩ := hR
  refine ⟨h1, ⟨?_, a2, a3⟩, h3, ⟨⟨t0, t1, t2, t3, t4⟩, b0, b1, b2, b3, b4⟩, ⟨e0, e1, e2, e3, e4⟩, h6⟩
  rw [sc_u_at, sc_u_at]
  exact r_up_row a1 rfl
theorem r_handler {N : Nat} {S J : sc_I} {v : Int32} (hR : r_R N S J) : r_R N (sc_u S 2 0 8 v) (sc_u J 3 0 22 v) := by
  obtain ⟨⟨s1, s2, s3, s4, s5, s6, s7, s8, s9, s10⟩, h2, h3, ⟨⟨t0, t1, t2, t3, t4⟩, b0, b1, b2, b3, b4⟩, ⟨e0, e1, e2, e3, e4⟩, h6⟩ := hR
  exact ⟨⟨s1, rfl, s3, s4, s5, s6, s7, s8, s9, s10⟩, h2, h3, ⟨⟨t0, t1, t2, t3, t4⟩, b0, b1, b2, b3, b4⟩, ⟨e0, e1, e2, e3, e4⟩, h6⟩
theorem r_start {N : Nat} {S J : sc_I} {v : Int32} (hR : r_R N S J) : r_R N (sc_u (sc_u (c_em5 S) 2 0 7 v) 2 0 11 0) (sc_u (sc_u (m_emp J) 3 0 21 v) 3 0 25 0) := by
  obtain ⟨⟨s1, s2, s3, s4, s5, s6, s7, s8, s9, s10⟩, h2, h3, ⟨⟨t0, t1, t2, t3, t4⟩, b0, b1, b2, b3, b4⟩, ⟨e0, e1, e2, e3, e4⟩, h6⟩ := hR
  exact ⟨⟨rfl, s2, s3, s4, rfl, s6, s7, s8, s9, Or.inl rfl⟩, h2, h3, ⟨⟨⟨rfl, Or.inl rfl, r_z⟩, ⟨rfl, Or.inl rfl, r_z⟩, ⟨rfl, Or.inl rfl, r_z⟩, ⟨rfl, Or.inl rfl, r_z⟩, ⟨rfl, Or.inl rfl, r_z⟩⟩, b0, b1, b2, b3, b4⟩, ⟨r_z, r_z, r_z, r_z, r_z⟩, h6⟩
/-- another instruction at place p -/
def c_put (p : Nat) (f : Nat → Int32) (S : sc_I) : sc_I := fun k i => bif (Nat.beq k 7 && Nat.beq i p) then f else S k i
theorem r_put {N : Nat} {S J : sc_I} {p o d s t n : Int32} {f : Nat → Int32} (hR : r_R N S J) (hp : 0 ≤ p ∧ p ≤ 63) (hk : m_pok o d s t n) (f0 : f 0 = o) (f1 : f 1 = d) (f2 : f 2 = s) (f3 : f 3 = t) (f4 : f 4 = n) : r_R N (c_put p.toNatClampNeg f S) (m_pt p o d s t n J) := by
  obtain ⟨h1, h2, ⟨h3, n0, n1, n2, n3, n4⟩, ⟨⟨t0, t1, t2, t3, t4⟩, b0, b1, b2, b3, b4⟩, ⟨e0, e1, e2, e3, e4⟩, h6⟩ := hR
  have hlt := r_lt (r_63 hp)
  have e64 : c_put p.toNatClampNeg f S 7 64 = S 7 64 := by
    unfold c_put
    rw [sc_beq_ne (show 64 ≠ p.toNatClampNeg by omega)]
    rfl
  refine ⟨h1, h2, ⟨?_, ?_⟩, ⟨⟨t0, t1, t2, t3, t4⟩, b0, b1, b2, b3, b4⟩, ⟨e0, e1, e2, e3, e4⟩, h6⟩
  · intro q hq
    have x4 : m_pt p o d s t n J 4 4 q = va_up (J 4 4) p.toNatClampNeg o q := congrFun (sc_u_at J 4 4 p.toNatClampNeg o) q
    have x5 : m_pt p o d s t n J 4 5 q = va_up (J 4 5) p.toNatClampNeg d q := congrFun (sc_u_at J 4 5 p.toNatClampNeg d) q
    have x6 : m_pt p o d s t n J 4 6 q = va_up (J 4 6) p.toNatClampNeg s q := congrFun (sc_u_at J 4 6 p.toNatClampNeg s) q
    have x7 : m_pt p o d s t n J 4 7 q = va_up (J 4 7) p.toNatClampNeg t q := congrFun (sc_u_at J 4 7 p.toNatClampNeg t) q
    have x8 : m_pt p o d s t n J 4 8 q = va_up (J 4 8) p.toNatClampNeg n q := congrFun (sc_u_at J 4 8 p.toNatClampNeg n) q
    rw [x4, x5, x6, x7, x8]
    by_cases e : q = p.toNatClampNeg
    · have ef : c_put p.toNatClampNeg f S 7 q = f := by
        unfold c_put
        rw [e, Nat.beq_refl, Nat.beq_refl]
        rfl
      rw [ef, e, va_up_self, va_up_self, va_up_self, va_up_self, va_up_self]
      exact ⟨⟨f0, f1, f2, f3, f4⟩, hk.1, hk.2.1, hk.2.2.1, hk.2.2.2.1⟩
    · have ef : c_put p.toNatClampNeg f S 7 q = S 7 q := by
        unfold c_put
        rw [sc_beq_ne e]
        rfl
      rw [ef, va_up_ne _ _ e, va_up_ne _ _ e, va_up_ne _ _ e, va_up_ne _ _ e, va_up_ne _ _ e]
      exact h3 q hq
  · rw [e64]
    exact ⟨n0, n1, n2, n3, n4⟩
/-! what is read -/
theorem r_peek {N : Nat} {S J : sc_I} {w : Int32} (hR : r_R N S J) (h : 0 ≤ w ∧ w ≤ 31) : S 4 0 w.toNatClampNeg = J 4 9 w.toNatClampNeg := hR.2.1.2.1 _ (r_lt (r_31 h))
theorem r_register {N : Nat} {S J : sc_I} {w : Int32} (hR : r_R N S J) (h : 0 ≤ w ∧ w ≤ 15) : S 4 1 w.toNatClampNeg = J 4 10 w.toNatClampNeg := hR.2.1.1 _ (r_lt (m_vr h (by decide) (by decide)))
theorem r_counter {N : Nat} {S J : sc_I} {w : Int32} (hR : r_R N S J) (h : 0 ≤ w ∧ w ≤ 7) : S 4 2 w.toNatClampNeg = J 4 11 w.toNatClampNeg := (hR.2.1.2.2 _ (r_lt (m_vr h (by decide) (by decide)))).1
theorem r_count {N : Nat} {S J : sc_I} {w : Int32} (hR : r_R N S J) : c_cnt w S = m_cnt w J := by
  obtain ⟨⟨s1, s2, s3, s4, s5, s6, s7, s8, s9, s10⟩, h2, h3, h4, h5, h0, h6⟩ := hR
  unfold c_cnt m_cnt
  rw [s6, h0, s7, s8, s9, s1, s3, s4, s5]
theorem r_stage {N : Nat} {S J : sc_I} {w : Int32} (hR : r_R N S J) (h : 0 ≤ w ∧ w ≤ 4) : S 0 w.toNatClampNeg 0 = J 5 0 w.toNatClampNeg ∧ (¬ J 5 0 w.toNatClampNeg = 0 → S 0 w.toNatClampNeg 2 = J 4 12 w.toNatClampNeg) := by
  have hl : w.toNatClampNeg < 5 := r_lt (m_vr h (by decide) (by decide))
  obtain ⟨t0, t1, t2, t3, t4⟩ := hR.2.2.2.1.1
  generalize w.toNatClampNeg = i at *
  have hj : i = 0 ∨ i = 1 ∨ i = 2 ∨ i = 3 ∨ i = 4 := by omega
  rcases hj with rfl | rfl | rfl | rfl | rfl
  · exact ⟨t0.1, fun z => (t0.2.2 (r_01 t0.2.1 z)).1⟩
  · exact ⟨t1.1, fun z => (t1.2.2 (r_01 t1.2.1 z)).1⟩
  · exact ⟨t2.1, fun z => (t2.2.2 (r_01 t2.2.1 z)).1⟩
  · exact ⟨t3.1, fun z => (t3.2.2 (r_01 t3.2.1 z)).1⟩
  · exact ⟨t4.1, fun z => (t4.2.2 (r_01 t4.2.1 z)).1⟩
end
section
theorem r_nsub {a b : Nat} (h : b ≤ a) : nI a - nI b = nI (a - b) := by
  have e : nI a = nI (a - b) + nI b := by rw [nI_add, Nat.sub_add_cancel h]
  rw [e, Int32.add_sub_cancel]
theorem r_m16 {n : Nat} (hn : n < 2 ^ 30) : c_m16 (nI n) = nI (min n 16) := by
  unfold c_m16
  by_cases c : 16 < n
  · rw [if_pos (show (16 : Int32) < nI n from nI_lt (a := 16) c (by omega)), Nat.min_eq_right (by omega)]
    rfl
  · rw [if_neg (show ¬ (16 : Int32) < nI n from nI_nlt (b := 16) (a := n) |> fun h => fun z => by
      have := Int32.lt_iff_toInt_lt.mp z
      rw [nI_toInt (by omega), show (16 : Int32).toInt = 16 from rfl] at this
      omega), Nat.min_eq_left (by omega)]
theorem r_retired {N : Nat} {S J : sc_I} {w : Int32} (hR : r_R N S J) (hN : N < 2 ^ 30) : ((0 ≤ w ∧ w ≤ J 3 0 31 - 1) ↔ (0 ≤ w ∧ w < c_m16 (S 2 0 13))) ∧ ((0 ≤ w ∧ w ≤ J 3 0 31 - 1) → vp_in w 16 ∧ vp_in (c_rm (S 2 0 13 - 1 - w)) 16 ∧ S 4 3 (c_rm (S 2 0 13 - 1 - w)).toNatClampNeg = J 4 22 w.toNatClampNeg) := by
  obtain ⟨h1, h2, h3, h4, h5, h0, n, hn, h6, h7, h8⟩ := hR
  have em : c_m16 (S 2 0 13) = nI (min n 16) := by rw [h0, h6, r_m16 (by omega)]
  have hm : min n 16 ≤ 16 := Nat.min_le_right _ _
  have hm2 : min n 16 ≤ n := Nat.min_le_left _ _
  have eq : (0 ≤ w ∧ w ≤ J 3 0 31 - 1) ↔ (0 ≤ w ∧ w < c_m16 (S 2 0 13)) := by
    rw [em, h7, Int32.le_iff_toInt_le, Int32.le_iff_toInt_le, Int32.lt_iff_toInt_lt, show (nI (min n 16) - 1).toInt = _ from pk_sub_toInt (b := 1) (by omega) (by decide), nI_toInt (by omega), show (0 : Int32).toInt = 0 from rfl]
    omega
  refine ⟨eq, fun h => ?_⟩
  have h' := eq.mp h
  rw [em] at h'
  have hv : vp_in w (min n 16) := by
    apply vp_in_iff.mpr
    have a := Int32.le_iff_toInt_le.mp h'.1
    have b := Int32.lt_iff_toInt_lt.mp h'.2
    rw [nI_toInt (by omega)] at b
    exact ⟨a, b⟩
  obtain ⟨j, hj, rfl⟩ := vp_in_of hv (by omega)
  have es : S 2 0 13 - 1 - nI j = nI (n - 1 - j) := by
    rw [h0, h6, show nI n - 1 = nI (n - 1) from r_nsub (b := 1) (by omega), r_nsub (by omega)]
  rw [es, r_rm (by omega), nI_clamp (by omega), nI_clamp (by omega)]
  exact ⟨vp_in_nI (by omega) (by decide), vp_in_nI (by omega) (by decide), h8 j (by omega) (by omega)⟩
/-! the reference's part of a state and the class' part -/
def m_F (J X : sc_I) : Prop := ∀ k i, ¬ c_mp k i → X k i = J k i
theorem m_F.r (J : sc_I) : m_F J J := fun _ _ _ => rfl
theorem m_F.t {J X Y : sc_I} (a : m_F J X) (b : m_F X Y) : m_F J Y := fun k i h => (b k i h).trans (a k i h)
theorem m_F.u3 {J X : sc_I} {s : Nat} {v : Int32} (a : m_F J X) : m_F J (sc_u X 3 0 s v) := fun k i h => (sc_u_row _ _ _ _ _ (fun e => h (Or.inl e.1))).trans (a k i h)
theorem m_F.u5 {J X : sc_I} {s : Nat} {v : Int32} (a : m_F J X) : m_F J (sc_u X 5 0 s v) := fun k i h => (sc_u_row _ _ _ _ _ (fun e => h (Or.inr (Or.inl e.1)))).trans (a k i h)
theorem m_F.u4 {J X : sc_I} {r s : Nat} {v : Int32} (a : m_F J X) (hr : 4 ≤ r) : m_F J (sc_u X 4 r s v) := fun k i h => (sc_u_row _ _ _ _ _ (fun e => h (Or.inr (Or.inr ⟨e.1, by omega⟩)))).trans (a k i h)
theorem m_F_emp (J : sc_I) : m_F J (m_emp J) := (m_F.r J).u5.u5.u5.u5.u5
theorem m_F_row {r i : Nat} (J : sc_I) (hr : 4 ≤ r) : m_F J (m_row r i J) := (m_F.r J).u4 hr
theorem m_F_move (i : Nat) (J : sc_I) : m_F J (m_move i J) := by
  unfold m_move
  refine m_F.t ?_ (m_F_row _ (by decide))
  refine m_F.t ?_ (m_F_row _ (by decide))
  refine m_F.t ?_ (m_F_row _ (by decide))
  refine m_F.t ?_ (m_F_row _ (by decide))
  refine m_F.t ?_ (m_F_row _ (by decide))
  refine m_F.t ?_ (m_F_row _ (by decide))
  refine m_F.t ?_ (m_F_row _ (by decide))
  refine m_F.t ?_ (m_F_row _ (by decide))
  refine m_F.t ?_ (m_F_row _ (by decide))
  refine m_F.t ?_ (m_F_row _ (by decide))
  exact (m_F.r J).u5.u5
theorem m_F_sh (k : Int32) (J : sc_I) : m_F J (m_sh k J) := (m_F.r J).u4 (by decide)
theorem m_F_shift (J : sc_I) : m_F J (m_shift J) := by
  unfold m_shift
  repeat (first | exact m_F_sh _ J | refine m_F.t ?_ (m_F_sh _ _))
theorem m_F_note (k : Int32) (J : sc_I) : m_F J (m_note k J) := ((m_F.r J).u3.t (m_F_shift _)).u4 (by decide) |>.u3
theorem m_F_lv (J : sc_I) : m_F J (m_lv J) := by
  unfold m_lv
  split
  · exact m_F.r J
  · split
    · split
      · exact (m_F.r J).u5.u3.t (m_F_emp _)
      · split
        · exact ((m_F.r J).u5.u4 (by decide)).t (m_F_note _ _)
        · exact (m_F.r J).u5.t (m_F_note _ _)
    · exact (m_F.r J).u5.u3.u3.u3.u3.t (m_F_emp _)
theorem m_F_rem (J : sc_I) : m_F J (m_rem J) := by
  unfold m_rem
  split
  · exact m_F.r J
  · split
    · split
      · exact (m_F_move 3 J).u4 (by decide)
      · split
        · exact (m_F_move 3 J).u4 (by decide)
        · exact m_F_move 3 J
    · exact m_F_move 3 J
theorem m_F_wk (J : sc_I) : m_F J (m_wkS J) := by
  unfold m_wkS
  split
  · split
    · exact (m_F.r J).u4 (by decide)
    · split
      · exact (m_F.r J).u4 (by decide)
      · split
        · exact (((m_F.r J).u4 (by decide)).u4 (by decide)).u4 (by decide)
        · split
          · exact ((m_F.r J).u4 (by decide)).u4 (by decide)
          · split
            · exact (m_F.r J).u4 (by decide)
            · split
              · exact ((m_F.r J).u4 (by decide)).u4 (by decide)
              · exact (m_F.r J).u4 (by decide)
  · exact ((m_F.r J).u4 (by decide)).u4 (by decide)
theorem m_F_fin (J : sc_I) : m_F J (m_fin J) := by
  unfold m_fin
  refine m_F.t ?_ (m_F_move 2 _)
  split
  · exact (m_F_wk J).u3.u5.u5.u3
  · exact m_F_wk J
theorem m_F_rch (q : Int32) (J : sc_I) : m_F J (m_rch q J) := by
  unfold m_rch
  split
  · exact m_F.r J
  · split
    · exact (m_F.r J).u3
    · split
      · exact (m_F.r J).u3.t (m_F_fin _)
      · exact (m_F.r J).u3.u3
theorem m_F_fk (nx : Int32) (J : sc_I) : m_F J (m_fk nx J) := by
  unfold m_fk
  exact ((((((((((m_F.r J).u5.u4 (by decide)).u4 (by decide)).u4 (by decide)).u4 (by decide)).u4 (by decide)).u4 (by decide)).u4 (by decide)).u3).u4 (by decide))
theorem m_F_fu (nx : Int32) (J : sc_I) : m_F J (m_fu nx J) := by
  unfold m_fu
  exact ((((((((((m_F.r J).u5.u4 (by decide)).u4 (by decide)).u4 (by decide)).u4 (by decide)).u4 (by decide)).u4 (by decide)).u4 (by decide)).u3).u4 (by decide))
theorem m_F_cyc (J : sc_I) : m_F J (m_cyc J) := by
  have hT : m_F J (m_tick J) := (m_F.r J).u3
  unfold m_cyc
  split
  · exact hT.t (m_F_lv _)
  · refine m_F.t ((((hT.t (m_F_lv _)).t (m_F_rem _)).t (m_F_rch (m_ldd (m_tick J)) _))) ?_
    generalize m_rch _ _ = X
    have h1 : m_F X (m_mv1 X) := by
      unfold m_mv1
      split
      · exact (m_F_move 1 X).u3
      · exact m_F.r X
    have h2 : ∀ Y, m_F Y (m_mv0 Y) := by
      intro Y
      unfold m_mv0
      split
      · exact m_F_move 0 Y
      · exact m_F.r Y
    have h3 : ∀ Y, m_F Y (m_ft0 Y) := by
      intro Y
      unfold m_ft0 m_ftc
      split
      · split
        · split
          · exact m_F_fk _ Y
          · exact m_F_fk _ Y
        · exact m_F_fu _ Y
      · exact m_F.r Y
    exact (h1.t (h2 _)).t (h3 _)
theorem m_F_run : ∀ (n : Nat) (J : sc_I), m_F J (m_run n J) := by
  intro n
  induction n with
  | zero => exact fun J => m_F.r J
  | succ n ih =>
    intro J
    unfold m_run
    split
    · exact (m_F_cyc J).t (ih _)
    · exact m_F.r J
theorem m_F_pt (p o d s t n : Int32) (J : sc_I) : m_F J (m_pt p o d s t n J) := (((((m_F.r J).u4 (by decide)).u4 (by decide)).u4 (by decide)).u4 (by decide)).u4 (by decide)
/-- the class' view stays when only the reference's part changes -/
theorem c_AB.f {I I' : sc_I} {D : sc_R} {S : sc_I} (h : c_AB I D S) (hf : m_F I I') : c_AB I' D S := by
  obtain ⟨h1, h2, h3, h4, h5, h6, h7⟩ := h
  have n0 : ∀ i, ¬ c_mp 0 i := fun i z => by unfold c_mp at z; omega
  have n1 : ∀ i, ¬ c_mp 1 i := fun i z => by unfold c_mp at z; omega
  have n2 : ∀ i, ¬ c_mp 2 i := fun i z => by unfold c_mp at z; omega
  have n4 : ∀ i, i < 4 → ¬ c_mp 4 i := fun i hi z => by unfold c_mp at z; omega
  exact ⟨h1, fun i hi => (hf 0 _ (n0 _)).trans (h2 i hi), fun i hi => (hf 1 _ (n1 _)).trans (h3 i hi), fun i hi => (hf 1 _ (n1 _)).trans (h4 i hi), (hf 1 _ (n1 _)).trans h5, (hf 2 _ (n2 _)).trans h6, fun j hj => (hf 4 _ (n4 _ hj)).trans (h7 j hj)⟩
/-- the relation reads only the reference's part -/
def m_pr (J : sc_I) : sc_I := fun k i => bif (Nat.beq k 3 || (Nat.beq k 5 || (Nat.beq k 4 && Nat.ble 4 i))) then J k i else fun _ => 0
theorem m_pr_R {N : Nat} {S J : sc_I} (hR : r_R N S J) : r_R N S (m_pr J) := by
  obtain ⟨h1, h2, h3, ⟨⟨t0, t1, t2, t3, t4⟩, b0, b1, b2, b3, b4⟩, ⟨e0, e1, e2, e3, e4⟩, h6⟩ := hR
  exact ⟨h1, h2, h3, ⟨⟨t0, t1, t2, t3, t4⟩, b0, b1, b2, b3, b4⟩, ⟨e0, e1, e2, e3, e4⟩, h6⟩
theorem m_pr_R' {N : Nat} {S J : sc_I} (hR : r_R N S (m_pr J)) : r_R N S J := by
  obtain ⟨h1, h2, h3, ⟨⟨t0, t1, t2, t3, t4⟩, b0, b1, b2, b3, b4⟩, ⟨e0, e1, e2, e3, e4⟩, h6⟩ := hR
  exact ⟨h1, h2, h3, ⟨⟨t0, t1, t2, t3, t4⟩, b0, b1, b2, b3, b4⟩, ⟨e0, e1, e2, e3, e4⟩, h6⟩
theorem r_MS {N : Nat} {S I I' : sc_I} (hR : r_R N S I) (h : c_MS I I') : r_R N S I' := by
  have e : m_pr I' = m_pr I := by
    funext k i
    unfold m_pr
    cases hb : (Nat.beq k 3 || (Nat.beq k 5 || (Nat.beq k 4 && Nat.ble 4 i)))
    · rfl
    · have hm : c_mp k i := by
        rw [Bool.or_eq_true, Bool.or_eq_true, Bool.and_eq_true] at hb
        rcases hb with z | z | z
        · exact Or.inl (Nat.eq_of_beq_eq_true z)
        · exact Or.inr (Or.inl (Nat.eq_of_beq_eq_true z))
        · exact Or.inr (Or.inr ⟨Nat.eq_of_beq_eq_true z.1, Nat.le_of_ble_eq_true z.2⟩)
      exact h k i hm
  exact m_pr_R' (e ▸ m_pr_R hR)
end
section
/-! the throws of the class: checkIndex, checkArgument, set, count -/
def tx_I : String := "java/lang/IndexOutOfBoundsException"
def tx_A : String := "java/lang/IllegalArgumentException"
def tx_n : List String := ["java/lang/RuntimeException", "java/lang/Exception"]
theorem tx_in {L : List Cond} (h : L.all (fun w => decide (w ∈ lw_tbl) && goodWord w) = true) {w : Cond} (hw : w ∈ L) : w ∈ sc_G := by
  have h1 := List.all_eq_true.mp h w hw
  simp only [Bool.and_eq_true, decide_eq_true_eq] at h1
  exact List.mem_filter.mpr h1
theorem tx_gI : (Cond.classLink RX2 52 tx_I :: Cond.initialized tx_I :: (vx_atS RX2 56 tx_I tx_n).filter goodWord).all (fun w => decide (w ∈ lw_tbl) && goodWord w) = true := by decide +kernel
theorem tx_gA : (Cond.classLink RX2 110 tx_A :: Cond.initialized tx_A :: (vx_atS RX2 114 tx_A tx_n).filter goodWord).all (fun w => decide (w ∈ lw_tbl) && goodWord w) = true := by decide +kernel
theorem tx_oI : (Cond.classLink RX2 52 tx_I :: Cond.initialized tx_I :: vx_atS RX2 56 tx_I tx_n).all vx_ot = true := by decide +kernel
theorem tx_oA : (Cond.classLink RX2 110 tx_A :: Cond.initialized tx_A :: vx_atS RX2 114 tx_A tx_n).all vx_ot = true := by decide +kernel
def tx_B : List Cond := [Cond.castable tx_I tx_I, Cond.castable tx_A tx_A, Cond.declares (Bundle.initS "java/lang/RuntimeException"), Cond.declares (Bundle.initS "java/lang/Exception"), Cond.declares (Bundle.initS Bundle.tN)]
theorem tx_Bt : tx_B.all Cond.onTables = true := by decide +kernel
theorem tx_bI : ((vx_atS RX2 56 tx_I tx_n).filter (fun w => !goodWord w)).all (fun w => decide (w ∈ tx_B)) = true := by decide +kernel
theorem tx_bA : ((vx_atS RX2 114 tx_A tx_n).filter (fun w => !goodWord w)).all (fun w => decide (w ∈ tx_B)) = true := by decide +kernel
/-- what a throw asks of the state beside words -/
def tx_Z (A : Nat → Prop) (k : Nat → Nat) (U : State) : Prop := vx_Zq Bundle.tN "UNASSIGNED_STACK" Bundle.steD A U U.heap ∧ vx_Zq Bundle.tN "SUPPRESSED_SENTINEL" Bundle.listD A U U.heap ∧ vk_R RX2 115 "there is none such" (k 0) U ∧ vk_R RX2 117 "not in its bounds" (k 1) U ∧ vk_R RX2 54 "register 0 is always 0" (k 2) U ∧ vk_R RX2 112 "there is no such count" (k 3) U ∧ ∀ w ∈ tx_B, va_Nw w U
def tx_X (E : String) : String → State → State → Prop := vx_X (fun _ : Unit => True) (fun E' _ _ => E' = E) (fun _ => False)
def tx_room (d : Nat) : Room := { frames := 6 + d, cells := 1, slots := 6, locals := 100 + 30 * d }
theorem tx_throw {p : Program} {l : Launch} {e : Env} {s : State} {m : MethodId} {args : Array Value} {below : List Frame} {meth : Method} {c : Code} {y : MethodName} {cc : ByteArray} {nL : Nat} {rt : Option FieldType} {A : Nat → Prop} {d pc : Nat} {ls : Array Slot} {Qc : Array Value → State → Outcome → State → Prop} {E text : String} {ik is ic sa : Nat}
    (hl : l.stackTraces = false) (hx : p.tables.exec = Jvm.exec) (hb : c.code = cc) (hml : c.maxLocals = nL) (hown : s.vm.findClass RX2 = some m.cls) (hts : ∀ w ∈ sc_ws y cc nL rt, w.before args s = true) (hlk : meth.locks = false) (htb : ∀ x ∈ c.exceptionTable.toList, False) (hsz : ls.size = nL)
    (hU : vx_Zq Bundle.tN "UNASSIGNED_STACK" Bundle.steD A s s.heap) (hN : vx_Zq Bundle.tN "SUPPRESSED_SENTINEL" Bundle.listD A s s.heap) (hR : vk_R RX2 is text sa s) (hC : ∀ w ∈ tx_B, va_Nw w s) (hE : Bundle.fit E = true)
    (g : (Cond.classLink RX2 ik E :: Cond.initialized E :: (vx_atS RX2 ic E tx_n).filter goodWord).all (fun w => decide (w ∈ lw_tbl) && goodWord w) = true) (o : (Cond.classLink RX2 ik E :: Cond.initialized E :: vx_atS RX2 ic E tx_n).all vx_ot = true) (b : ((vx_atS RX2 ic E tx_n).filter (fun w => !goodWord w)).all (fun w => decide (w ∈ tx_B)) = true)
    (d0 : decode cc pc = .ok (.new ik, 3)) (d3 : decode cc (pc + 3) = .ok (.dup, 1)) (d4 : decode cc (pc + 4) = .ok (.ldc is, 2)) (d6 : decode cc (pc + 6) = .ok (.invokespecial ic, 3)) (d9 : decode cc (pc + 9) = .ok (.athrow, 1)) :
    W p l e (tx_room d) s m args below meth c s.heap [] 0 0 (vx_MQ below Qc (tx_X E) args s 1 6 (fun _ => False)) (F0 m pc ls []) := by
  have hin : ∀ w ∈ (Cond.classLink RX2 ik E :: Cond.initialized E :: (vx_atS RX2 ic E tx_n).filter goodWord), w.before args s = true := fun w hw => hts w (List.mem_cons_of_mem _ (tx_in g hw))
  refine vx_throwS (own := RX2) (cls := E) (text := text) (names := tx_n) (ik := ik) (is := is) (ic := ic) (sa := sa) (A := A) hx hb hl hown hE (by decide) (hin _ List.mem_cons_self) (hin _ (List.mem_cons_of_mem _ List.mem_cons_self)) hR ?_ (fun w hw => List.all_eq_true.mp o w hw) hU hN va_S.rf (by rw [hsz, hml]) d0 d3 d4 d6 d9 (fun x hx => (htb x hx).elim) ?_ ?_ ?_ ?_ hlk ?_ (fun z hz => by cases hz) (by decide) (by decide)
  · exact vx_hat (B := tx_B) (fun w hw => hin w (List.mem_cons_of_mem _ (List.mem_cons_of_mem _ hw))) (fun w hw => of_decide_eq_true (List.all_eq_true.mp b w hw)) (fun w hw => va_Nw.use (List.all_eq_true.mp tx_Bt w hw) (hC w hw))
  · show 2 + 3 < 6 + d
    omega
  · show 0 + (13 * (2 + 1) + 43) ≤ 100 + 30 * d
    omega
  · show 0 + 1 ≤ 1
    omega
  · show 0 + 6 ≤ 6
    omega
  · exact fun t _ h1 h2 => ⟨(), trivial, rfl, h1, fun q hq _ => h2 q hq⟩
set_option maxRecDepth 100000 in
theorem tx_cI {l : Launch} (hl : l.stackTraces = false) {Qc : Array Value → State → Outcome → State → Prop} {A : Nat → Prop} {k : Nat → Nat} {v n : Int32} (h : ¬ (0 ≤ v ∧ v < n)) : vx_Met l (sc_y 8) (sc_ws (sc_y 8) (sc_c 8) (sc_nL 8) (sc_rt 8)) (tx_room 0) (va_Pc [.int v, .int n] (tx_Z A k)) Qc (tx_X tx_I) 1 6 (fun _ => False) := by
  refine vx_ofW (cc := sc_c 8) (maxL := sc_nL 8) (ret := sc_rt 8) (by decide) rfl ?_
  intro p e s m args below meth c s₁ B hml htb hv
  obtain ⟨rfl, hU, hN, h1, h2, h3, h4, h5⟩ := hv
  have hts := atoms_spec (ws := sc_ws (sc_y 8) (sc_c 8) (sc_nL 8) (sc_rt 8)) B.pre
  have hown : s.vm.findClass (sc_y 8).cls = some m.cls := findClass_of_methodNamed B.named
  have hx := B.exec
  have hb : c.code = cX2_checkIndex := B.bytes
  rw [lg_entry_eq]
  have hls := lv_entry [Value.int v, Value.int n] (n := sc_nL 8) (Nat.le_refl 2)
  generalize ((lg_sl [Value.int v, Value.int n] ++ List.replicate (sc_nL 8 - (lg_sl [Value.int v, Value.int n]).length) Slot.unset).toArray) = ls at hls ⊢
  have thr := tx_throw (d := 0) (e := e) (below := below) (Qc := Qc) (ls := ls) (pc := 9) hl hx B.bytes hml hown hts B.notSynchronized htb hls.1 hU hN h1 h5 (by decide) tx_gI tx_oI tx_bI dX2_checkIndex_9 dX2_checkIndex_12 dX2_checkIndex_13 dX2_checkIndex_15 dX2_checkIndex_18
  refine lv_iload_n hx hb dX2_checkIndex_0 rfl (lv_at hls 0 rfl) ?_
  refine lv_if_lt hx hb dX2_checkIndex_1 (tgt := 9) (by decide) (fun _ => thr) (fun z => ?_)
  refine lv_iload_n hx hb dX2_checkIndex_4 rfl (lv_at hls 0 rfl) ?_
  refine lv_iload_n hx hb dX2_checkIndex_5 rfl (lv_at hls 1 rfl) ?_
  exact lv_icmp_lt hx hb dX2_checkIndex_6 (tgt := 19) (by decide) (fun w => absurd ⟨Int32.not_lt.mp z, w⟩ h) (fun _ => thr)
set_option maxRecDepth 100000 in
theorem tx_cA {l : Launch} (hl : l.stackTraces = false) {Qc : Array Value → State → Outcome → State → Prop} {A : Nat → Prop} {k : Nat → Nat} {v lo hi : Int32} (h : ¬ (lo ≤ v ∧ v ≤ hi)) : vx_Met l (sc_y 9) (sc_ws (sc_y 9) (sc_c 9) (sc_nL 9) (sc_rt 9)) (tx_room 0) (va_Pc [.int v, .int lo, .int hi] (tx_Z A k)) Qc (tx_X tx_A) 1 6 (fun _ => False) := by
  refine vx_ofW (cc := sc_c 9) (maxL := sc_nL 9) (ret := sc_rt 9) (by decide) rfl ?_
  intro p e s m args below meth c s₁ B hml htb hv
  obtain ⟨rfl, hU, hN, h1, h2, h3, h4, h5⟩ := hv
  have hts := atoms_spec (ws := sc_ws (sc_y 9) (sc_c 9) (sc_nL 9) (sc_rt 9)) B.pre
  have hown : s.vm.findClass (sc_y 9).cls = some m.cls := findClass_of_methodNamed B.named
  have hx := B.exec
  have hb : c.code = cX2_checkArgument := B.bytes
  rw [lg_entry_eq]
  have hls := lv_entry [Value.int v, Value.int lo, Value.int hi] (n := sc_nL 9) (Nat.le_refl 3)
  generalize ((lg_sl [Value.int v, Value.int lo, Value.int hi] ++ List.replicate (sc_nL 9 - (lg_sl [Value.int v, Value.int lo, Value.int hi]).length) Slot.unset).toArray) = ls at hls ⊢
  have thr := tx_throw (d := 0) (e := e) (below := below) (Qc := Qc) (ls := ls) (pc := 10) hl hx B.bytes hml hown hts B.notSynchronized htb hls.1 hU hN h2 h5 (by decide) tx_gA tx_oA tx_bA dX2_checkArgument_10 dX2_checkArgument_13 dX2_checkArgument_14 dX2_checkArgument_16 dX2_checkArgument_19
  refine lv_iload_n hx hb dX2_checkArgument_0 rfl (lv_at hls 0 rfl) ?_
  refine lv_iload_n hx hb dX2_checkArgument_1 rfl (lv_at hls 1 rfl) ?_
  refine lv_icmp_lt hx hb dX2_checkArgument_2 (tgt := 10) (by decide) (fun _ => thr) (fun z => ?_)
  refine lv_iload_n hx hb dX2_checkArgument_5 rfl (lv_at hls 0 rfl) ?_
  refine lv_iload_n hx hb dX2_checkArgument_6 rfl (lv_at hls 2 rfl) ?_
  exact lv_icmp_le hx hb dX2_checkArgument_7 (tgt := 20) (by decide) (fun w => absurd ⟨Int32.not_lt.mp z, w⟩ h) (fun _ => thr)
end
section
/-! a check throws: it goes out of the public method, the world as it was -/
theorem tx_Z.at {A : Nat → Prop} {k : Nat → Nat} {s U : State} {H : Heap} {locs : List Loc} (hZ : tx_Z A k s) (hS : va_S A s.heap H locs) (hU : U.heap = H) (hW : s.WarmedH U.vm) : tx_Z A k U := by
  obtain ⟨z1, z2, z3, z4, z5, z6, z7⟩ := hZ
  refine ⟨by rw [hU]; exact vx_Zq.moved hW.alike (z1.kept hS.2.1), by rw [hU]; exact vx_Zq.moved hW.alike (z2.kept hS.2.1), vk_R.warm hW z3, vk_R.warm hW z4, vk_R.warm hW z5, vk_R.warm hW z6, fun w hw => ?_⟩
  have h := z7 w hw
  simp only [tx_B, List.mem_cons, List.not_mem_nil, or_false] at hw
  rcases hw with rfl | rfl | rfl | rfl | rfl
  · exact va_Nw.warmC hW h
  · exact va_Nw.warmC hW h
  · exact va_Nw.warmD hW h
  · exact va_Nw.warmD hW h
  · exact va_Nw.warmD hW h
theorem tx_Z.same {A : Nat → Prop} {k : Nat → Nat} {u U : State} (hZ : tx_Z A k u) (hv : u.vm = U.vm) (hh : U.heap = u.heap) : tx_Z A k U := by
  obtain ⟨z1, z2, z3, z4, z5, z6, z7⟩ := hZ
  have ha : u.vm.Alike U.vm := by rw [← hv]; exact Vm.Alike.refl u.vm
  exact ⟨by rw [hh]; exact vx_Zq.moved ha z1, by rw [hh]; exact vx_Zq.moved ha z2, vk_R.same hv.symm z3, vk_R.same hv.symm z4, vk_R.same hv.symm z5, vk_R.same hv.symm z6, fun w hw => va_Nw.same (List.all_eq_true.mp tx_Bt w hw) hv (z7 w hw)⟩
theorem tx_blind {av : List Value} {A : Nat → Prop} {k : Nat → Nat} : FrameBlind (va_Pc av (tx_Z A k)) := fun a U g mk q => ⟨q.1, q.2.same (U := U.calling g mk a) rfl rfl⟩
/-- thrown, the world as it was -/
def tx_XW (dC : Nat → ClassId) (dI : Nat → Nat → Nat) (ad : Nat → Nat) (cA : Nat → ClassId) (LP : List Nat) (o : Nat → Int64) (A : Nat → Prop) (I : sc_I) (D : sc_R) (E : String) : String → State → State → Prop := vx_X (fun _ : Unit => True) (fun E' _ t => E' = E ∧ va_P (dC, dI) vwCl (sc_w ad cA LP o I D) t.heap) A
def tx_Pc (dC : Nat → ClassId) (dI : Nat → Nat → Nat) (ad : Nat → Nat) (cA : Nat → ClassId) (LP : List Nat) (o : Nat → Int64) (A : Nat → Prop) (k : Nat → Nat) (as : List sc_V) (I : sc_I) (D : sc_R) : Array Value → State → Prop := va_Pc (as.map (sc_tv ad)) (fun U => sc_KN dC dI cA U ∧ va_P (dC, dI) vwCl (sc_w ad cA LP o I D) U.heap ∧ tx_Z A k U)
def tx_Met (l : Launch) (d : Nat) (dC : Nat → ClassId) (dI : Nat → Nat → Nat) (ad : Nat → Nat) (cA : Nat → ClassId) (LP : List Nat) (o : Nat → Int64) (A : Nat → Prop) (k : Nat → Nat) (mid : Nat) (as : List sc_V) (I : sc_I) (D : sc_R) (E : String) : Prop :=
  ∀ Qc : Array Value → State → Outcome → State → Prop, vx_Met l (sc_y mid) (sc_ws (sc_y mid) (sc_c mid) (sc_nL mid) (sc_rt mid)) (tx_room d) (tx_Pc dC dI ad cA LP o A k as I D) Qc (tx_XW dC dI ad cA LP o A I D E) 1 6 A
theorem tx_callC {p : Program} {l : Launch} {e : Env} {s : State} {m : MethodId} {args : Array Value} {below : List Frame} {meth : Method} {c : Code} {y : MethodName} {cc : ByteArray} {nL : Nat} {rt : Option FieldType} {dC : Nat → ClassId} {dI : Nat → Nat → Nat} {ad : Nat → Nat} {cA : Nat → ClassId} {LP : List Nat} {o : Nat → Int64} {A : Nat → Prop} {k : Nat → Nat} {I : sc_I} {D : sc_R} {d pc mid n idx : Nat} {H : Heap} {locs : List Loc} {ls : Array Slot} {As : List Value} {Qc : Array Value → State → Outcome → State → Prop} {E : String}
    (hM : vx_Met l (sc_y mid) (sc_ws (sc_y mid) (sc_c mid) (sc_nL mid) (sc_rt mid)) (tx_room 0) (va_Pc As (tx_Z A k)) (va_Qv (fun _ : Unit => False) (fun _ _ => True) (fun _ => False)) (tx_X E) 1 6 (fun _ => False)) (hMO : sc_MO mid n) (hn : As.length = n) (w1 : Cond.methodLink y.cls idx (sc_y mid) ∈ sc_G) (w2 : Cond.static (sc_y mid) ∈ sc_G)
    (hx : p.tables.exec = Jvm.exec) (hb : c.code = cc) (hml : c.maxLocals = nL) (hown : s.vm.findClass y.cls = some m.cls) (hts : ∀ w ∈ sc_ws y cc nL rt, w.before args s = true) (hlk : meth.locks = false) (htb : ∀ x ∈ c.exceptionTable.toList, False) (hsz : ls.size = nL)
    (hZ : tx_Z A k s) (hP : va_P (dC, dI) vwCl (sc_w ad cA LP o I D) H) (hS : va_S A s.heap H locs) (h : decode cc pc = .ok (.invokestatic idx, 3)) :
    W p l e (tx_room (d + 1)) s m args below meth c H locs 0 0 (vx_MQ below Qc (tx_XW dC dI ad cA LP o A I D E) args s 1 6 A) (F0 m pc ls As.reverse) := by
  obtain ⟨hm, hd, hnl, w5, w4⟩ := hMO
  have hg : GoodIn (sc_ws y cc nL rt) (va_wsS y.cls idx (sc_y mid) (sc_ws (sc_y mid) (sc_c mid) (sc_nL mid) (sc_rt mid))) := by
    intro w hw
    rcases List.mem_append.mp hw with hw | hw
    · simp only [List.mem_cons, List.not_mem_nil, or_false] at hw
      rcases hw with rfl | rfl | rfl
      · exact ⟨List.mem_cons_of_mem _ w1, sc_G_good w1⟩
      · exact ⟨List.mem_cons_of_mem _ w2, sc_G_good w2⟩
      · exact ⟨List.mem_cons_of_mem _ w4, sc_G_good w4⟩
    · exact sc_gws w5 w hw
  refine vx_callv (vx_runS (As := As) (rest := []) ⟨hx, hb, hml, hown, hts⟩ hM (va_cwS n hts hg rfl rfl rfl hd ⟨by show 6 + 0 + 1 ≤ 6 + (d + 1); omega, by show 8 + (sc_nL mid + 11) + (100 + 30 * 0) ≤ 100 + 30 * (d + 1); omega⟩) ⟨tx_blind, fun U hU hW => ⟨rfl, hZ.at hS hU hW⟩⟩ rfl hn hsz (by rw [List.append_nil]) (lv_room (by decide)) h ⟨Nat.le_refl _, Nat.le_refl _⟩) hS (fun q _ h => h.elim) (fun q h => h.elim) (fun q _ h => h.elim) ?_ ?_
  · intro E' ce q9 u t H1 locs1 ht hv _ hE hz hk hS1 hce hcv hcl
    subst hE
    have hP1 : va_P (dC, dI) vwCl (sc_w ad cA LP o I D) H1 := hP.kept (fun j q hj => hk q.1 (hP j q hj).lt (fun h => h))
    exact vx_out (fun x hx => (htb x hx).elim) hlk hce hcv hcl (fun t2 e2 _ => ⟨(), trivial, ⟨rfl, by rw [e2]; exact hP1⟩, by rw [e2]; exact hS1.1, fun q hq hA => by rw [e2]; exact hS1.2.1 q hq hA⟩) hS1.2.2 (by decide) (by decide)
  · exact fun _ _ _ _ _ _ hf => hf.elim
theorem tx_pub {l : Launch} {d : Nat} {dC : Nat → ClassId} {dI : Nat → Nat → Nat} {ad : Nat → Nat} {cA : Nat → ClassId} {LP : List Nat} {o : Nat → Int64} {A : Nat → Prop} {k : Nat → Nat} {mid : Nat} {as : List sc_V} {I : sc_I} {D : sc_R} {E : String} (hy : plainName (sc_y mid).cls = true) (hle : as.length ≤ sc_nL mid)
    (body : ∀ (Qc : Array Value → State → Outcome → State → Prop) (p : Program) (e : Env) (s : State) (m : MethodId) (args : Array Value) (below : List Frame) (meth : Method) (c : Code) (ls : Array Slot), p.tables.exec = Jvm.exec → c.code = sc_c mid → c.maxLocals = sc_nL mid → s.vm.findClass (sc_y mid).cls = some m.cls → (∀ w ∈ sc_ws (sc_y mid) (sc_c mid) (sc_nL mid) (sc_rt mid), w.before args s = true) → meth.locks = false → (∀ x ∈ c.exceptionTable.toList, False) → sc_KN dC dI cA s → va_P (dC, dI) vwCl (sc_w ad cA LP o I D) s.heap → tx_Z A k s → lv_has ls (sc_nL mid) (sc_lm ad (sc_al 0 as)) →
      W p l e (tx_room d) s m args below meth c s.heap [] 0 0 (vx_MQ below Qc (tx_XW dC dI ad cA LP o A I D E) args s 1 6 A) (F0 m 0 ls [])) : tx_Met l d dC dI ad cA LP o A k mid as I D E := by
  intro Qc
  refine vx_ofW (cc := sc_c mid) (maxL := sc_nL mid) (ret := sc_rt mid) hy rfl ?_
  intro p e s m args below meth c s₁ B hml htb hv
  obtain ⟨rfl, hK, hP, hZ⟩ := hv
  have hts := atoms_spec (ws := sc_ws (sc_y mid) (sc_c mid) (sc_nL mid) (sc_rt mid)) B.pre
  rw [lg_entry_eq]
  have hls := lv_entry (as.map (sc_tv ad)) (n := sc_nL mid) (by rw [sc_lg]; exact hle)
  rw [sc_al_map] at hls
  exact body Qc p e s m _ below meth c _ B.exec B.bytes hml (findClass_of_methodNamed B.named) hts B.notSynchronized htb hK hP hZ hls
set_option maxRecDepth 100000 in
theorem tx_poke {l : Launch} (hl : l.stackTraces = false) {dC : Nat → ClassId} {dI : Nat → Nat → Nat} {ad : Nat → Nat} {cA : Nat → ClassId} {LP : List Nat} {o : Nat → Int64} {A : Nat → Prop} {k : Nat → Nat} {I : sc_I} {D : sc_R} {w v : Int32} (h : ¬ (0 ≤ w ∧ w < 32)) : tx_Met l 1 dC dI ad cA LP o A k 10 [.inr (2, 0), .inl w, .inl v] I D tx_I := by
  refine tx_pub (by decide) (Nat.le_of_ble_eq_true rfl) ?_
  intro Qc p e s m args below meth c ls hx hb0 hml hown hts hlk htb hK hP hZ hls
  have hb : c.code = cX2_poke := hb0
  exact lv_iload_n hx hb dX2_poke_0 rfl (lv_at hls 1 rfl) (lv_bipush hx hb dX2_poke_1 rfl (tx_callC (d := 0) (As := [.int w, .int 32]) (tx_cI hl h) mo_8 rfl kM_2_44 kS_8 hx hb0 hml hown hts hlk htb hls.1 hZ hP va_S.rf dX2_poke_3))
set_option maxRecDepth 100000 in
theorem tx_peek {l : Launch} (hl : l.stackTraces = false) {dC : Nat → ClassId} {dI : Nat → Nat → Nat} {ad : Nat → Nat} {cA : Nat → ClassId} {LP : List Nat} {o : Nat → Int64} {A : Nat → Prop} {k : Nat → Nat} {I : sc_I} {D : sc_R} {w : Int32} (h : ¬ (0 ≤ w ∧ w < 32)) : tx_Met l 1 dC dI ad cA LP o A k 11 [.inr (2, 0), .inl w] I D tx_I := by
  refine tx_pub (by decide) (Nat.le_of_ble_eq_true rfl) ?_
  intro Qc p e s m args below meth c ls hx hb0 hml hown hts hlk htb hK hP hZ hls
  have hb : c.code = cX2_peek := hb0
  exact lv_iload_n hx hb dX2_peek_0 rfl (lv_at hls 1 rfl) (lv_bipush hx hb dX2_peek_1 rfl (tx_callC (d := 0) (As := [.int w, .int 32]) (tx_cI hl h) mo_8 rfl kM_2_44 kS_8 hx hb0 hml hown hts hlk htb hls.1 hZ hP va_S.rf dX2_peek_3))
set_option maxRecDepth 100000 in
theorem tx_register {l : Launch} (hl : l.stackTraces = false) {dC : Nat → ClassId} {dI : Nat → Nat → Nat} {ad : Nat → Nat} {cA : Nat → ClassId} {LP : List Nat} {o : Nat → Int64} {A : Nat → Prop} {k : Nat → Nat} {I : sc_I} {D : sc_R} {w : Int32} (h : ¬ (0 ≤ w ∧ w < 16)) : tx_Met l 1 dC dI ad cA LP o A k 13 [.inr (2, 0), .inl w] I D tx_I := by
  refine tx_pub (by decide) (Nat.le_of_ble_eq_true rfl) ?_
  intro Qc p e s m args below meth c ls hx hb0 hml hown hts hlk htb hK hP hZ hls
  have hb : c.code = cX2_register := hb0
  exact lv_iload_n hx hb dX2_register_0 rfl (lv_at hls 1 rfl) (lv_bipush hx hb dX2_register_1 rfl (tx_callC (d := 0) (As := [.int w, .int 16]) (tx_cI hl h) mo_8 rfl kM_2_44 kS_8 hx hb0 hml hown hts hlk htb hls.1 hZ hP va_S.rf dX2_register_3))
set_option maxRecDepth 100000 in
theorem tx_start {l : Launch} (hl : l.stackTraces = false) {dC : Nat → ClassId} {dI : Nat → Nat → Nat} {ad : Nat → Nat} {cA : Nat → ClassId} {LP : List Nat} {o : Nat → Int64} {A : Nat → Prop} {k : Nat → Nat} {I : sc_I} {D : sc_R} {w : Int32} (h : ¬ (0 ≤ w ∧ w < 64)) : tx_Met l 1 dC dI ad cA LP o A k 15 [.inr (2, 0), .inl w] I D tx_I := by
  refine tx_pub (by decide) (Nat.le_of_ble_eq_true rfl) ?_
  intro Qc p e s m args below meth c ls hx hb0 hml hown hts hlk htb hK hP hZ hls
  have hb : c.code = cX2_start := hb0
  exact lv_iload_n hx hb dX2_start_0 rfl (lv_at hls 1 rfl) (lv_bipush hx hb dX2_start_1 rfl (tx_callC (d := 0) (As := [.int w, .int 64]) (tx_cI hl h) mo_8 rfl kM_2_44 kS_8 hx hb0 hml hown hts hlk htb hls.1 hZ hP va_S.rf dX2_start_3))
set_option maxRecDepth 100000 in
theorem tx_handler {l : Launch} (hl : l.stackTraces = false) {dC : Nat → ClassId} {dI : Nat → Nat → Nat} {ad : Nat → Nat} {cA : Nat → ClassId} {LP : List Nat} {o : Nat → Int64} {A : Nat → Prop} {k : Nat → Nat} {I : sc_I} {D : sc_R} {w : Int32} (h : ¬ (0 ≤ w ∧ w < 64)) : tx_Met l 1 dC dI ad cA LP o A k 16 [.inr (2, 0), .inl w] I D tx_I := by
  refine tx_pub (by decide) (Nat.le_of_ble_eq_true rfl) ?_
  intro Qc p e s m args below meth c ls hx hb0 hml hown hts hlk htb hK hP hZ hls
  have hb : c.code = cX2_handler := hb0
  exact lv_iload_n hx hb dX2_handler_0 rfl (lv_at hls 1 rfl) (lv_bipush hx hb dX2_handler_1 rfl (tx_callC (d := 0) (As := [.int w, .int 64]) (tx_cI hl h) mo_8 rfl kM_2_44 kS_8 hx hb0 hml hown hts hlk htb hls.1 hZ hP va_S.rf dX2_handler_3))
set_option maxRecDepth 100000 in
theorem tx_stage {l : Launch} (hl : l.stackTraces = false) {dC : Nat → ClassId} {dI : Nat → Nat → Nat} {ad : Nat → Nat} {cA : Nat → ClassId} {LP : List Nat} {o : Nat → Int64} {A : Nat → Prop} {k : Nat → Nat} {I : sc_I} {D : sc_R} {w : Int32} (h : ¬ (0 ≤ w ∧ w < 5)) : tx_Met l 1 dC dI ad cA LP o A k 38 [.inr (2, 0), .inl w] I D tx_I := by
  refine tx_pub (by decide) (Nat.le_of_ble_eq_true rfl) ?_
  intro Qc p e s m args below meth c ls hx hb0 hml hown hts hlk htb hK hP hZ hls
  have hb : c.code = cX2_stage := hb0
  exact lv_iload_n hx hb dX2_stage_0 rfl (lv_at hls 1 rfl) (lv_iconst hx hb dX2_stage_1 rfl (tx_callC (d := 0) (As := [.int w, .int 5]) (tx_cI hl h) mo_8 rfl kM_2_44 kS_8 hx hb0 hml hown hts hlk htb hls.1 hZ hP va_S.rf dX2_stage_2))
set_option maxRecDepth 100000 in
theorem tx_counter {l : Launch} (hl : l.stackTraces = false) {dC : Nat → ClassId} {dI : Nat → Nat → Nat} {ad : Nat → Nat} {cA : Nat → ClassId} {LP : List Nat} {o : Nat → Int64} {A : Nat → Prop} {k : Nat → Nat} {I : sc_I} {D : sc_R} {w : Int32} (h : ¬ (0 ≤ w ∧ w < 8)) : tx_Met l 1 dC dI ad cA LP o A k 39 [.inr (2, 0), .inl w] I D tx_I := by
  refine tx_pub (by decide) (Nat.le_of_ble_eq_true rfl) ?_
  intro Qc p e s m args below meth c ls hx hb0 hml hown hts hlk htb hK hP hZ hls
  have hb : c.code = cX2_counter := hb0
  exact lv_iload_n hx hb dX2_counter_0 rfl (lv_at hls 1 rfl) (lv_bipush hx hb dX2_counter_1 rfl (tx_callC (d := 0) (As := [.int w, .int 8]) (tx_cI hl h) mo_8 rfl kM_2_44 kS_8 hx hb0 hml hown hts hlk htb hls.1 hZ hP va_S.rf dX2_counter_3))
set_option maxRecDepth 100000 in
theorem tx_set {l : Launch} (hl : l.stackTraces = false) {dC : Nat → ClassId} {dI : Nat → Nat → Nat} {ad : Nat → Nat} {cA : Nat → ClassId} {LP : List Nat} {o : Nat → Int64} {A : Nat → Prop} {k : Nat → Nat} {I : sc_I} {D : sc_R} {w v : Int32} (h : ¬ (0 ≤ w ∧ w < 16)) : tx_Met l 1 dC dI ad cA LP o A k 12 [.inr (2, 0), .inl w, .inl v] I D tx_I := by
  refine tx_pub (by decide) (Nat.le_of_ble_eq_true rfl) ?_
  intro Qc p e s m args below meth c ls hx hb0 hml hown hts hlk htb hK hP hZ hls
  have hb : c.code = cX2_set := hb0
  exact lv_iload_n hx hb dX2_set_0 rfl (lv_at hls 1 rfl) (lv_bipush hx hb dX2_set_1 rfl (tx_callC (d := 0) (As := [.int w, .int 16]) (tx_cI hl h) mo_8 rfl kM_2_44 kS_8 hx hb0 hml hown hts hlk htb hls.1 hZ hP va_S.rf dX2_set_3))
set_option maxRecDepth 100000 in
theorem tx_cycles {l : Launch} (hl : l.stackTraces = false) {dC : Nat → ClassId} {dI : Nat → Nat → Nat} {ad : Nat → Nat} {cA : Nat → ClassId} {LP : List Nat} {o : Nat → Int64} {A : Nat → Prop} {k : Nat → Nat} {I : sc_I} {D : sc_R} {w : Int32} (h : ¬ (1 ≤ w ∧ w ≤ 300)) : tx_Met l 1 dC dI ad cA LP o A k 37 [.inr (2, 0), .inl w] I D tx_A := by
  refine tx_pub (by decide) (Nat.le_of_ble_eq_true rfl) ?_
  intro Qc p e s m args below meth c ls hx hb0 hml hown hts hlk htb hK hP hZ hls
  have hb : c.code = cX2_cycles := hb0
  exact lv_iload_n hx hb dX2_cycles_0 rfl (lv_at hls 1 rfl) (lv_iconst hx hb dX2_cycles_1 rfl (lv_sipush hx hb dX2_cycles_2 rfl (tx_callC (d := 0) (As := [.int w, .int 1, .int 300]) (tx_cA hl h) mo_9 rfl kM_2_48 kS_9 hx hb0 hml hown hts hlk htb hls.1 hZ hP va_S.rf dX2_cycles_5)))
end
