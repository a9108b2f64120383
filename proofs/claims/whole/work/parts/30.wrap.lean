/-! the law's own wrappers: a call of the class in a try -/
def lx_ws (y : MethodName) (cc : ByteArray) (nL : Nat) (hh : List (Nat × Nat × Nat × Nat)) : List Cond := Cond.codeWith y cc nL (some .int) hh :: sc_G
def lx_room : Room := { frames := 8, cells := 1, slots := 6, locals := 240 }
abbrev lx_KT : Type := Int32 → (Nat → Int64) → sc_I → sc_R → Prop
def lx_Qc (dC : Nat → ClassId) (dI : Nat → Nat → Nat) (ad : Nat → Nat) (cA : Nat → ClassId) (LP : List Nat) (A : Nat → Prop) (Kw : lx_KT) : Array Value → State → Outcome → State → Prop := fun _ st oc t => ∃ (r : Int32) (o : Nat → Int64) (I : sc_I) (D : sc_R), oc = .returned (some (.int r)) ∧ Kw r o I D ∧ sc_vd LP D ∧ va_P (dC, dI) vwCl (sc_w ad cA LP o I D) t.heap ∧ va_F A st t
def lx_Met (l : Launch) (dC : Nat → ClassId) (dI : Nat → Nat → Nat) (ad : Nat → Nat) (cA : Nat → ClassId) (LP : List Nat) (o : Nat → Int64) (A : Nat → Prop) (k : Nat → Nat) (y : MethodName) (cc : ByteArray) (nL : Nat) (hh : List (Nat × Nat × Nat × Nat)) (as : List sc_V) (I : sc_I) (D : sc_R) (Kw : lx_KT) : Prop :=
  Met l y (lx_ws y cc nL hh) lx_room (tx_Pc dC dI ad cA LP o A k as I D) (lx_Qc dC dI ad cA LP A Kw) 1 6 A
theorem lx_w_out {ad : Nat → Nat} {cA : Nat → ClassId} {LP : List Nat} {o : Nat → Int64} {I : sc_I} {D : sc_R} : (sc_w ad cA LP o I D)[10]? = some (ad 10, .inl (cA 26, 1, .inr (.inl o))) := by
  rw [sc_w_get (show 10 < 34 by decide)]
  rfl
theorem lx_w_outset {ad : Nat → Nat} {cA : Nat → ClassId} {LP : List Nat} {o o' : Nat → Int64} {I : sc_I} {D : sc_R} : (sc_w ad cA LP o I D).set 10 (ad 10, .inl (cA 26, 1, .inr (.inl o'))) = sc_w ad cA LP o' I D := by
  unfold sc_w
  rw [List.set_append_left _ _ (by rw [sc_tab_len]; decide), sc_tab_set]
  refine congrArg (fun z => z ++ _) (sc_tab_congr (fun q hq => ?_))
  by_cases e : q = 10
  · subst e
    rw [va_up_self]
    rfl
  · rw [va_up_ne _ _ e]
    have key : ∀ q : Nat, q < 34 → q ≠ 10 → sc_mk ad cA o q (I (sc_kd q) (sc_ix q)) (D (sc_kd q) (sc_ix q)) = sc_mk ad cA o' q (I (sc_kd q) (sc_ix q)) (D (sc_kd q) (sc_ix q)) := by
      intro q _ hn
      unfold sc_mk
      split <;> first | rfl | exact absurd rfl hn
    rw [key q hq e]
theorem lx_ofW {l : Launch} {y : MethodName} {ws ws' : List Cond} {rm : Room} {Pc : Array Value → State → Prop} {Qc : Array Value → State → Outcome → State → Prop} {mc ms : Nat} {free : Addr → Prop} {cc : ByteArray} {maxL : Nat} {ret : Option FieldType} {hh : List (Nat × Nat × Nat × Nat)}
    (hy : plainName y.cls = true) (hw : ws = Cond.codeWith y cc maxL ret hh :: ws')
    (body : ∀ p e s m args below meth c s₁, BodyLoose p l y (headSpec ws rm) cc maxL ret e s m args below meth c s₁ → c.maxLocals = maxL → c.exceptionTable.toList = tableOf hh → Pc args s →
      W p l e (headSpec ws rm).room s m args below meth c s.heap [] 0 0 (MQ below Qc args s mc ms free) (entryFrame m args maxL)) : Met l y ws rm Pc Qc mc ms free := by
  refine MetFree.of_bodyS (code := cc) (maxLocals := maxL) (ret := ret) hy ?_ ?_
  · intro args s m h hn
    obtain ⟨m9, meth, c, hn9, h1, h2, h3, h4, -, h5, h6, -⟩ := Cond.codeWith_spec (atoms_spec (ws := ws) h _ (by rw [hw]; exact List.mem_cons_self))
    cases hn.symm.trans hn9
    exact ⟨meth, c, h1, h2, h3, h4, h5, h6⟩
  · intro p e s m args below meth c s₁ B hml hP _
    have hh0 : s₁.heap = s.heap := by rw [B.state]; rfl
    have htb : c.exceptionTable.toList = tableOf hh := vx_table (x := y) B (atoms_spec (ws := ws) B.pre _ (by rw [hw]; exact List.mem_cons_self))
    obtain ⟨t, a1, o, b1, b2, b3⟩ := body p e s m args below meth c s₁ B hml htb hP s₁ hh0 (Stand.of_body B)
    exact ⟨t, o, a1, b1, b2, ⟨b3.1, b3.2⟩⟩
theorem lx_pub {l : Launch} {dC : Nat → ClassId} {dI : Nat → Nat → Nat} {ad : Nat → Nat} {cA : Nat → ClassId} {LP : List Nat} {o : Nat → Int64} {A : Nat → Prop} {k : Nat → Nat} {y : MethodName} {cc : ByteArray} {nL : Nat} {hh : List (Nat × Nat × Nat × Nat)} {as : List sc_V} {I : sc_I} {D : sc_R} {Kw : lx_KT} (hy : plainName y.cls = true) (hle : as.length ≤ nL)
    (body : ∀ (p : Program) (e : Env) (s : State) (m : MethodId) (args : Array Value) (below : List Frame) (meth : Method) (c : Code) (ls : Array Slot), p.tables.exec = Jvm.exec → c.code = cc → meth.sig.returnType = some .int → c.maxLocals = nL → s.vm.findClass y.cls = some m.cls → (∀ w ∈ lx_ws y cc nL hh, w.before args s = true) → meth.locks = false → c.exceptionTable.toList = tableOf hh → sc_KN dC dI cA s → va_P (dC, dI) vwCl (sc_w ad cA LP o I D) s.heap → tx_Z A k s → lv_has ls nL (sc_lm ad (sc_al 0 as)) →
      W p l e lx_room s m args below meth c s.heap [] 0 0 (MQ below (lx_Qc dC dI ad cA LP A Kw) args s 1 6 A) (F0 m 0 ls [])) : lx_Met l dC dI ad cA LP o A k y cc nL hh as I D Kw := by
  refine lx_ofW (cc := cc) (maxL := nL) (ret := some .int) (hh := hh) hy rfl ?_
  intro p e s m args below meth c s₁ B hml htb hv
  obtain ⟨rfl, hK, hP, hZ⟩ := hv
  have hts := atoms_spec (ws := lx_ws y cc nL hh) B.pre
  rw [lg_entry_eq]
  have hls := lv_entry (as.map (sc_tv ad)) (n := nL) (by rw [sc_lg]; exact hle)
  rw [sc_al_map] at hls
  exact body p e s m _ below meth c _ B.exec B.bytes B.returns hml (findClass_of_methodNamed B.named) hts B.notSynchronized htb hK hP hZ hls
/-- a call of a method of the class that returns -/
theorem lx_callV {p : Program} {l : Launch} {e : Env} {R : Room} {s : State} {m : MethodId} {args : Array Value} {below : List Frame} {meth : Method} {c : Code} {own : String} {cc : ByteArray} {nL : Nat} {Ts : List Cond} {dC : Nat → ClassId} {dI : Nat → Nat → Nat} {ad : Nat → Nat} {cA : Nat → ClassId} {LP : List Nat} {o : Nat → Int64} {A : Nat → Prop} {I : sc_I} {D : sc_R} {d pc mid n idx k1 i : Nat} {H : Heap} {locs : List Loc} {ls : Array Slot} {as : List sc_V} {K : sc_RT} {Qf : State → Prop} {rest : List Value} {cells slots : Nat}
    (hsub : ∀ w ∈ sc_G, w ∈ Ts) (hMt : sc_Met l d dC dI ad cA LP o A mid (.inr (k1, i) :: as) I D K) (hMO : sc_MO mid n) (hlen : as.length = n) (hk1 : k1 < 4) (hok : sc_ok LP (.inr (k1, i))) (hc1 : (sc_y mid).cls = (sc_cl k1).1) (w1 : Cond.methodLink own idx (sc_y mid) ∈ sc_G) (w2 : Cond.instanceMethod (sc_y mid) ∈ sc_G) (w3 : Cond.selects (sc_cl k1).1 (sc_y mid) (sc_y mid) ∈ sc_G)
    (hx : p.tables.exec = Jvm.exec) (hb : c.code = cc) (hml : c.maxLocals = nL) (hown : s.vm.findClass own = some m.cls) (hts : ∀ w ∈ Ts, w.before args s = true) (hsz : ls.size = nL) (hKN : sc_KN dC dI cA s)
    (hR1 : d + 1 ≤ R.frames) (hR2 : 30 * (d + 1) ≤ R.locals) (hR3 : cells ≤ R.cells) (hR4 : slots ≤ R.slots) (hrest : (rest.map fun v => v.category).sum ≤ 8)
    (hP : va_P (dC, dI) vwCl (sc_w ad cA LP o I D) H) (hS : va_S A s.heap H locs) (h : decode cc pc = .ok (.invokevirtual idx, 3))
    (kk : ∀ (r : Option sc_V) (I : sc_I) (D : sc_R) (H1 : Heap) (locs1 : List Loc), K r I D → sc_vd LP D → va_P (dC, dI) vwCl (sc_w ad cA LP o I D) H1 → va_S A s.heap H1 locs1 → W p l e R s m args below meth c H1 locs1 cells slots Qf (F0 m (pc + 3) ls ((r.map (sc_tv ad)).toList ++ rest))) :
    W p l e R s m args below meth c H locs cells slots Qf (F0 m pc ls ((as.map (sc_tv ad)).reverse ++ .ref (sc_ad ad k1 i) :: rest)) := by
  obtain ⟨hm, hd, hnl, w5, w4⟩ := hMO
  rw [hc1] at w4
  obtain ⟨q0, he⟩ := sc_objx (ad := ad) (cA := cA) (o := o) (I := I) (D := D) hk1 hok
  have hg : GoodIn Ts (wsV own idx (sc_cl k1).1 (sc_y mid) (sc_ws (sc_y mid) (sc_c mid) (sc_nL mid) (sc_rt mid))) := by
    intro w hw
    rcases List.mem_append.mp hw with hw | hw
    · simp only [List.mem_cons, List.not_mem_nil, or_false] at hw
      rcases hw with rfl | rfl | rfl | rfl
      · exact ⟨hsub _ w1, sc_G_good w1⟩
      · exact ⟨hsub _ w2, sc_G_good w2⟩
      · exact ⟨hsub _ w3, sc_G_good w3⟩
      · exact ⟨hsub _ w4, sc_G_good w4⟩
    · rcases List.mem_cons.mp hw with rfl | hw
      · exact ⟨hsub _ w5, sc_G_good w5⟩
      · exact ⟨hsub _ hw, sc_G_good hw⟩
  refine sc_call (va_runV (As := as.map (sc_tv ad)) (rest := rest) ⟨hx, hb, hml, hown, hts⟩ hMt (cwV n hts hg rfl rfl rfl ⟨hc1, hd⟩ ⟨hR1, by show 8 + (sc_nL mid + 11) + 30 * d ≤ R.locals; omega⟩) ⟨sc_blind, va_recv hKN.1 hP (sc_cl_at hk1) he, fun U hU hW => ⟨rfl, sc_KN_warm hW hKN, by rw [hU]; exact hP⟩⟩ rfl (by rw [List.length_map]; exact hlen) hsz rfl (lv_room hrest) h ⟨hR3, hR4⟩) hS (fun v I' D' H1 locs1 hq hok hvd hP hS => ?_)
  exact kk v I' D' H1 locs1 hq hvd hP hS
theorem lx_blind {dC : Nat → ClassId} {dI : Nat → Nat → Nat} {ad : Nat → Nat} {cA : Nat → ClassId} {LP : List Nat} {o : Nat → Int64} {A : Nat → Prop} {k : Nat → Nat} {as : List sc_V} {I : sc_I} {D : sc_R} : FrameBlind (tx_Pc dC dI ad cA LP o A k as I D) := fun a U g mk q => ⟨q.1, sc_KN_same (U := U.calling g mk a) rfl q.2.1, q.2.2.1, q.2.2.2.same (U := U.calling g mk a) rfl rfl⟩
/-- a call of a method of the class that throws, and is caught by the row x -/
theorem lx_callX {p : Program} {l : Launch} {e : Env} {R : Room} {s : State} {m : MethodId} {args : Array Value} {below : List Frame} {meth : Method} {c : Code} {own : String} {cc : ByteArray} {nL : Nat} {Ts : List Cond} {dC : Nat → ClassId} {dI : Nat → Nat → Nat} {ad : Nat → Nat} {cA : Nat → ClassId} {LP : List Nat} {o : Nat → Int64} {A : Nat → Prop} {k : Nat → Nat} {I : sc_I} {D : sc_R} {pc n idx : Nat} {H : Heap} {locs : List Loc} {ls : Array Slot} {as : List sc_V} {Qf : State → Prop} {rest : List Value} {cells slots : Nat} {y : MethodName} {cy : ByteArray} {ny : Nat} {ry : Option FieldType} {E : String}
    (hsub : ∀ w ∈ sc_G, w ∈ Ts) (hMt : tx_MetY l 1 dC dI ad cA LP o A k y cy ny ry (.inr (2, 0) :: as) I D E) (hd : y.cls = RX2 ∧ y.cls ≠ "java/lang/invoke/MethodHandle" ∧ y.cls ≠ "java/lang/invoke/VarHandle" ∧ (parseMethodDescriptor y.desc).map (fun d => d.parameters.length) = some n) (hny : ny ≤ 11) (hlen : as.length = n) (w1 : Cond.methodLink own idx y ∈ sc_G) (w2 : Cond.instanceMethod y ∈ sc_G) (w3 : Cond.selects RX2 y y ∈ sc_G) (w4 : Cond.initialized RX2 ∈ sc_G) (w5 : Cond.code y cy ny ry ∈ sc_G)
    (hx : p.tables.exec = Jvm.exec) (hb : c.code = cc) (hml : c.maxLocals = nL) (hown : s.vm.findClass own = some m.cls) (hts : ∀ w ∈ Ts, w.before args s = true) (hsz : ls.size = nL) (hKN : sc_KN dC dI cA s) (hZ : tx_Z A k s)
    (hR1 : 8 ≤ R.frames) (hR2 : 200 ≤ R.locals) (hR3 : cells + 1 ≤ R.cells) (hR4 : slots + 6 ≤ R.slots) (hrest : (rest.map fun v => v.category).sum ≤ 8)
    (hP : va_P (dC, dI) vwCl (sc_w ad cA LP o I D) H) (hS : va_S A s.heap H locs) (h : decode cc pc = .ok (.invokevirtual idx, 3))
    (pre : List ExceptionTableEntry) (x : ExceptionTableEntry) (suf : List ExceptionTableEntry) (hsplit : c.exceptionTable.toList = pre ++ x :: suf)
    (hpass : ∀ z ∈ pre, covers z pc = false ∨ (z.catchType ≠ 0 ∧ ∃ nm : String, (Cond.classLink own z.catchType nm).before args s = true ∧ va_Nc E nm s)) (hcov : covers x pc = true) (h0 : x.catchType ≠ 0) (hlink : Cond.classLink own x.catchType E ∈ sc_G) (hE : Cond.castable E E ∈ tx_B)
    (kk : ∀ (q : Nat) (H1 : Heap) (locs1 : List Loc), va_P (dC, dI) vwCl (sc_w ad cA LP o I D) H1 → va_S A s.heap H1 locs1 → W p l e R s m args below meth c H1 locs1 (cells + 1) (slots + 6) Qf (F0 m x.handlerPc ls [.ref q])) :
    W p l e R s m args below meth c H locs cells slots Qf (F0 m pc ls ((as.map (sc_tv ad)).reverse ++ .ref (sc_ad ad 2 0) :: rest)) := by
  obtain ⟨q0, he⟩ := sc_objx (ad := ad) (cA := cA) (LP := LP) (o := o) (I := I) (D := D) (k := 2) (i := 0) (by decide) rfl
  have hg : GoodIn Ts (wsV own idx RX2 y (sc_ws y cy ny ry)) := by
    intro w hw
    rcases List.mem_append.mp hw with hw | hw
    · simp only [List.mem_cons, List.not_mem_nil, or_false] at hw
      rcases hw with rfl | rfl | rfl | rfl
      · exact ⟨hsub _ w1, sc_G_good w1⟩
      · exact ⟨hsub _ w2, sc_G_good w2⟩
      · exact ⟨hsub _ w3, sc_G_good w3⟩
      · exact ⟨hsub _ w4, sc_G_good w4⟩
    · rcases List.mem_cons.mp hw with rfl | hw
      · exact ⟨hsub _ w5, sc_G_good w5⟩
      · exact ⟨hsub _ hw, sc_G_good hw⟩
  refine vx_calli (vx_runV (As := as.map (sc_tv ad)) (rest := rest) ⟨hx, hb, hml, hown, hts⟩ (hMt (va_Qi (fun _ (_ : Unit) => False) (fun _ _ => True) A)) (cwV n hts hg rfl rfl rfl hd ⟨by show 6 + 1 + 1 ≤ R.frames; omega, by show 8 + (ny + 11) + (100 + 30 * 1) ≤ R.locals; omega⟩) ⟨lx_blind, va_recv hKN.1 hP (sc_cl_at (k := 2) (by decide)) he, fun U hU hW => ⟨rfl, sc_KN_warm hW hKN, by rw [hU]; exact hP, hZ.at hS hU hW⟩⟩ rfl (by rw [List.length_map]; exact hlen) hsz rfl (lv_room hrest) h ⟨hR3, hR4⟩) hS (fun q _ h => h) (fun q h => h) (fun q _ h => h) ?_ ?_
  · intro E' ce q9 u t H1 locs1 ht hv _ hB hz hk hS1 hce hcv hcl
    obtain ⟨rfl, hP1⟩ := hB
    exact vx_catch hown pre x suf hsplit hpass hcov h0 (hts _ (hsub _ hlink)) (va_Nw.use rfl (hZ.2.2.2.2.2.2.1 _ hE)) hce hcv hcl (kk q9 H1 locs1 (by rw [← ht]; exact hP1) hS1)
  · exact fun _ _ _ _ _ _ _ hf => hf.elim
