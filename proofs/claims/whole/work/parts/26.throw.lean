/-! the throws of the class: checkIndex, checkArgument, set, count -/
def tx_I : String := "java/lang/IndexOutOfBoundsException"
def tx_A : String := "java/lang/IllegalArgumentException"
def tx_n : List String := ["java/lang/RuntimeException", "java/lang/Exception"]
theorem tx_in {L : List Cond} (h : L.all (fun w => decide (w ∈ lw_tbl) && goodWord w) = true) {w : Cond} (hw : w ∈ L) : w ∈ sc_G := by
  have h1 := List.all_eq_true.mp h w hw
  simp only [Bool.and_eq_true, decide_eq_true_eq] at h1
  exact List.mem_filter.mpr h1
theorem tx_gI : (Cond.classLink RX2 52 tx_I :: Cond.initialized tx_I :: (vx_atS RX2 56 tx_I tx_n).filter goodWord).all (fun w => decide (w ∈ lw_tbl) && goodWord w) = true := by decide +kernel
theorem tx_gA : (Cond.classLink RX2 110 tx_A :: Cond.initialized tx_A :: (vx_atS RX2 114 tx_A tx_n).filter goodWord).all (fun w => decide (w ∈ lw_tbl) && goodWord w) = true := by decide +kernel
theorem tx_oI : (Cond.classLink RX2 52 tx_I :: Cond.initialized tx_I :: vx_atS RX2 56 tx_I tx_n).all vx_ot = true := by decide +kernel
theorem tx_oA : (Cond.classLink RX2 110 tx_A :: Cond.initialized tx_A :: vx_atS RX2 114 tx_A tx_n).all vx_ot = true := by decide +kernel
def tx_B : List Cond := [Cond.castable tx_I tx_I, Cond.castable tx_A tx_A, Cond.declares (Bundle.initS "java/lang/RuntimeException"), Cond.declares (Bundle.initS "java/lang/Exception"), Cond.declares (Bundle.initS Bundle.tN)]
theorem tx_Bt : tx_B.all Cond.onTables = true := by decide +kernel
theorem tx_bI : ((vx_atS RX2 56 tx_I tx_n).filter (fun w => !goodWord w)).all (fun w => decide (w ∈ tx_B)) = true := by decide +kernel
theorem tx_bA : ((vx_atS RX2 114 tx_A tx_n).filter (fun w => !goodWord w)).all (fun w => decide (w ∈ tx_B)) = true := by decide +kernel
/-- what a throw asks of the state beside words -/
def tx_Z (A : Nat → Prop) (k : Nat → Nat) (U : State) : Prop := vx_Zq Bundle.tN "UNASSIGNED_STACK" Bundle.steD A U U.heap ∧ vx_Zq Bundle.tN "SUPPRESSED_SENTINEL" Bundle.listD A U U.heap ∧ vk_R RX2 115 "there is none such" (k 0) U ∧ vk_R RX2 117 "not in its bounds" (k 1) U ∧ vk_R RX2 54 "register 0 is always 0" (k 2) U ∧ vk_R RX2 112 "there is no such count" (k 3) U ∧ (∀ w ∈ tx_B, va_Nw w U) ∧ va_Nc tx_A tx_I U
def tx_X (E : String) : String → State → State → Prop := vx_X (fun _ : Unit => True) (fun E' _ _ => E' = E) (fun _ => False)
def tx_room (d : Nat) : Room := { frames := 6 + d, cells := 1, slots := 6, locals := 100 + 30 * d }
theorem tx_throw {p : Program} {l : Launch} {e : Env} {s : State} {m : MethodId} {args : Array Value} {below : List Frame} {meth : Method} {c : Code} {y : MethodName} {cc : ByteArray} {nL : Nat} {rt : Option FieldType} {A : Nat → Prop} {d pc : Nat} {ls : Array Slot} {Qc : Array Value → State → Outcome → State → Prop} {E text : String} {ik is ic sa : Nat}
    (hl : l.stackTraces = false) (hx : p.tables.exec = Jvm.exec) (hb : c.code = cc) (hml : c.maxLocals = nL) (hown : s.vm.findClass RX2 = some m.cls) (hts : ∀ w ∈ sc_ws y cc nL rt, w.before args s = true) (hlk : meth.locks = false) (htb : ∀ x ∈ c.exceptionTable.toList, False) (hsz : ls.size = nL)
    (hU : vx_Zq Bundle.tN "UNASSIGNED_STACK" Bundle.steD A s s.heap) (hN : vx_Zq Bundle.tN "SUPPRESSED_SENTINEL" Bundle.listD A s s.heap) (hR : vk_R RX2 is text sa s) (hC : ∀ w ∈ tx_B, va_Nw w s) (hE : Bundle.fit E = true)
    (g : (Cond.classLink RX2 ik E :: Cond.initialized E :: (vx_atS RX2 ic E tx_n).filter goodWord).all (fun w => decide (w ∈ lw_tbl) && goodWord w) = true) (o : (Cond.classLink RX2 ik E :: Cond.initialized E :: vx_atS RX2 ic E tx_n).all vx_ot = true) (b : ((vx_atS RX2 ic E tx_n).filter (fun w => !goodWord w)).all (fun w => decide (w ∈ tx_B)) = true)
    (d0 : decode cc pc = .ok (.new ik, 3)) (d3 : decode cc (pc + 3) = .ok (.dup, 1)) (d4 : decode cc (pc + 4) = .ok (.ldc is, 2)) (d6 : decode cc (pc + 6) = .ok (.invokespecial ic, 3)) (d9 : decode cc (pc + 9) = .ok (.athrow, 1)) :
    W p l e (tx_room d) s m args below meth c s.heap [] 0 0 (vx_MQ below Qc (tx_X E) args s 1 6 (fun _ => False)) (F0 m pc ls []) := by
  have hin : ∀ w ∈ (Cond.classLink RX2 ik E :: Cond.initialized E :: (vx_atS RX2 ic E tx_n).filter goodWord), w.before args s = true := fun w hw => hts w (List.mem_cons_of_mem _ (tx_in g hw))
  refine vx_throwS (own := RX2) (cls := E) (text := text) (names := tx_n) (ik := ik) (is := is) (ic := ic) (sa := sa) (A := A) hx hb hl hown hE (by decide) (hin _ List.mem_cons_self) (hin _ (List.mem_cons_of_mem _ List.mem_cons_self)) hR ?_ (fun w hw => List.all_eq_true.mp o w hw) hU hN va_S.rf (by rw [hsz, hml]) d0 d3 d4 d6 d9 (fun x hx => (htb x hx).elim) ?_ ?_ ?_ ?_ hlk ?_ (fun z hz => by cases hz) (by decide) (by decide)
  · exact vx_hat (B := tx_B) (fun w hw => hin w (List.mem_cons_of_mem _ (List.mem_cons_of_mem _ hw))) (fun w hw => of_decide_eq_true (List.all_eq_true.mp b w hw)) (fun w hw => va_Nw.use (List.all_eq_true.mp tx_Bt w hw) (hC w hw))
  · show 2 + 3 < 6 + d
    omega
  · show 0 + (13 * (2 + 1) + 43) ≤ 100 + 30 * d
    omega
  · show 0 + 1 ≤ 1
    omega
  · show 0 + 6 ≤ 6
    omega
  · exact fun t _ h1 h2 => ⟨(), trivial, rfl, h1, fun q hq _ => h2 q hq⟩
set_option maxRecDepth 100000 in
theorem tx_cI {l : Launch} (hl : l.stackTraces = false) {Qc : Array Value → State → Outcome → State → Prop} {A : Nat → Prop} {k : Nat → Nat} {v n : Int32} (h : ¬ (0 ≤ v ∧ v < n)) : vx_Met l (sc_y 8) (sc_ws (sc_y 8) (sc_c 8) (sc_nL 8) (sc_rt 8)) (tx_room 0) (va_Pc [.int v, .int n] (tx_Z A k)) Qc (tx_X tx_I) 1 6 (fun _ => False) := by
  refine vx_ofW (cc := sc_c 8) (maxL := sc_nL 8) (ret := sc_rt 8) (by decide) rfl ?_
  intro p e s m args below meth c s₁ B hml htb hv
  obtain ⟨rfl, hU, hN, h1, h2, h3, h4, h5⟩ := hv
  have hts := atoms_spec (ws := sc_ws (sc_y 8) (sc_c 8) (sc_nL 8) (sc_rt 8)) B.pre
  have hown : s.vm.findClass (sc_y 8).cls = some m.cls := findClass_of_methodNamed B.named
  have hx := B.exec
  have hb : c.code = cX2_checkIndex := B.bytes
  rw [lg_entry_eq]
  have hls := lv_entry [Value.int v, Value.int n] (n := sc_nL 8) (Nat.le_refl 2)
  generalize ((lg_sl [Value.int v, Value.int n] ++ List.replicate (sc_nL 8 - (lg_sl [Value.int v, Value.int n]).length) Slot.unset).toArray) = ls at hls ⊢
  have thr := tx_throw (d := 0) (e := e) (below := below) (Qc := Qc) (ls := ls) (pc := 9) hl hx B.bytes hml hown hts B.notSynchronized htb hls.1 hU hN h1 h5.1 (by decide) tx_gI tx_oI tx_bI dX2_checkIndex_9 dX2_checkIndex_12 dX2_checkIndex_13 dX2_checkIndex_15 dX2_checkIndex_18
  refine lv_iload_n hx hb dX2_checkIndex_0 rfl (lv_at hls 0 rfl) ?_
  refine lv_if_lt hx hb dX2_checkIndex_1 (tgt := 9) (by decide) (fun _ => thr) (fun z => ?_)
  refine lv_iload_n hx hb dX2_checkIndex_4 rfl (lv_at hls 0 rfl) ?_
  refine lv_iload_n hx hb dX2_checkIndex_5 rfl (lv_at hls 1 rfl) ?_
  exact lv_icmp_lt hx hb dX2_checkIndex_6 (tgt := 19) (by decide) (fun w => absurd ⟨Int32.not_lt.mp z, w⟩ h) (fun _ => thr)
set_option maxRecDepth 100000 in
theorem tx_cA {l : Launch} (hl : l.stackTraces = false) {Qc : Array Value → State → Outcome → State → Prop} {A : Nat → Prop} {k : Nat → Nat} {v lo hi : Int32} (h : ¬ (lo ≤ v ∧ v ≤ hi)) : vx_Met l (sc_y 9) (sc_ws (sc_y 9) (sc_c 9) (sc_nL 9) (sc_rt 9)) (tx_room 0) (va_Pc [.int v, .int lo, .int hi] (tx_Z A k)) Qc (tx_X tx_A) 1 6 (fun _ => False) := by
  refine vx_ofW (cc := sc_c 9) (maxL := sc_nL 9) (ret := sc_rt 9) (by decide) rfl ?_
  intro p e s m args below meth c s₁ B hml htb hv
  obtain ⟨rfl, hU, hN, h1, h2, h3, h4, h5⟩ := hv
  have hts := atoms_spec (ws := sc_ws (sc_y 9) (sc_c 9) (sc_nL 9) (sc_rt 9)) B.pre
  have hown : s.vm.findClass (sc_y 9).cls = some m.cls := findClass_of_methodNamed B.named
  have hx := B.exec
  have hb : c.code = cX2_checkArgument := B.bytes
  rw [lg_entry_eq]
  have hls := lv_entry [Value.int v, Value.int lo, Value.int hi] (n := sc_nL 9) (Nat.le_refl 3)
  generalize ((lg_sl [Value.int v, Value.int lo, Value.int hi] ++ List.replicate (sc_nL 9 - (lg_sl [Value.int v, Value.int lo, Value.int hi]).length) Slot.unset).toArray) = ls at hls ⊢
  have thr := tx_throw (d := 0) (e := e) (below := below) (Qc := Qc) (ls := ls) (pc := 10) hl hx B.bytes hml hown hts B.notSynchronized htb hls.1 hU hN h2 h5.1 (by decide) tx_gA tx_oA tx_bA dX2_checkArgument_10 dX2_checkArgument_13 dX2_checkArgument_14 dX2_checkArgument_16 dX2_checkArgument_19
  refine lv_iload_n hx hb dX2_checkArgument_0 rfl (lv_at hls 0 rfl) ?_
  refine lv_iload_n hx hb dX2_checkArgument_1 rfl (lv_at hls 1 rfl) ?_
  refine lv_icmp_lt hx hb dX2_checkArgument_2 (tgt := 10) (by decide) (fun _ => thr) (fun z => ?_)
  refine lv_iload_n hx hb dX2_checkArgument_5 rfl (lv_at hls 0 rfl) ?_
  refine lv_iload_n hx hb dX2_checkArgument_6 rfl (lv_at hls 2 rfl) ?_
  exact lv_icmp_le hx hb dX2_checkArgument_7 (tgt := 20) (by decide) (fun w => absurd ⟨Int32.not_lt.mp z, w⟩ h) (fun _ => thr)
