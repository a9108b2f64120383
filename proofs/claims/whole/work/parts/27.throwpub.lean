/-! a check throws: it goes out of the public method, the world as it was -/
theorem tx_Z.at {A : Nat → Prop} {k : Nat → Nat} {s U : State} {H : Heap} {locs : List Loc} (hZ : tx_Z A k s) (hS : va_S A s.heap H locs) (hU : U.heap = H) (hW : s.WarmedH U.vm) : tx_Z A k U := by
  obtain ⟨z1, z2, z3, z4, z5, z6, z7, z8⟩ := hZ
  refine ⟨by rw [hU]; exact vx_Zq.moved hW.alike (z1.kept hS.2.1), by rw [hU]; exact vx_Zq.moved hW.alike (z2.kept hS.2.1), vk_R.warm hW z3, vk_R.warm hW z4, vk_R.warm hW z5, vk_R.warm hW z6, fun w hw => ?_, va_Nc.moved hW.alike z8⟩
  have h := z7 w hw
  simp only [tx_B, List.mem_cons, List.not_mem_nil, or_false] at hw
  rcases hw with rfl | rfl | rfl | rfl | rfl
  · exact va_Nw.warmC hW h
  · exact va_Nw.warmC hW h
  · exact va_Nw.warmD hW h
  · exact va_Nw.warmD hW h
  · exact va_Nw.warmD hW h
theorem tx_Z.same {A : Nat → Prop} {k : Nat → Nat} {u U : State} (hZ : tx_Z A k u) (hv : u.vm = U.vm) (hh : U.heap = u.heap) : tx_Z A k U := by
  obtain ⟨z1, z2, z3, z4, z5, z6, z7, z8⟩ := hZ
  have ha : u.vm.Alike U.vm := by rw [← hv]; exact Vm.Alike.refl u.vm
  exact ⟨by rw [hh]; exact vx_Zq.moved ha z1, by rw [hh]; exact vx_Zq.moved ha z2, vk_R.same hv.symm z3, vk_R.same hv.symm z4, vk_R.same hv.symm z5, vk_R.same hv.symm z6, fun w hw => va_Nw.same (List.all_eq_true.mp tx_Bt w hw) hv (z7 w hw), va_Nc.moved ha z8⟩
theorem tx_blind {av : List Value} {A : Nat → Prop} {k : Nat → Nat} : FrameBlind (va_Pc av (tx_Z A k)) := fun a U g mk q => ⟨q.1, q.2.same (U := U.calling g mk a) rfl rfl⟩
/-- thrown, the world as it was -/
def tx_XW (dC : Nat → ClassId) (dI : Nat → Nat → Nat) (ad : Nat → Nat) (cA : Nat → ClassId) (LP : List Nat) (o : Nat → Int64) (A : Nat → Prop) (I : sc_I) (D : sc_R) (E : String) : String → State → State → Prop := vx_X (fun _ : Unit => True) (fun E' _ t => E' = E ∧ va_P (dC, dI) vwCl (sc_w ad cA LP o I D) t.heap) A
def tx_Pc (dC : Nat → ClassId) (dI : Nat → Nat → Nat) (ad : Nat → Nat) (cA : Nat → ClassId) (LP : List Nat) (o : Nat → Int64) (A : Nat → Prop) (k : Nat → Nat) (as : List sc_V) (I : sc_I) (D : sc_R) : Array Value → State → Prop := va_Pc (as.map (sc_tv ad)) (fun U => sc_KN dC dI cA U ∧ va_P (dC, dI) vwCl (sc_w ad cA LP o I D) U.heap ∧ tx_Z A k U)
def tx_Met (l : Launch) (d : Nat) (dC : Nat → ClassId) (dI : Nat → Nat → Nat) (ad : Nat → Nat) (cA : Nat → ClassId) (LP : List Nat) (o : Nat → Int64) (A : Nat → Prop) (k : Nat → Nat) (mid : Nat) (as : List sc_V) (I : sc_I) (D : sc_R) (E : String) : Prop :=
  ∀ Qc : Array Value → State → Outcome → State → Prop, vx_Met l (sc_y mid) (sc_ws (sc_y mid) (sc_c mid) (sc_nL mid) (sc_rt mid)) (tx_room d) (tx_Pc dC dI ad cA LP o A k as I D) Qc (tx_XW dC dI ad cA LP o A I D E) 1 6 A
theorem tx_callC {p : Program} {l : Launch} {e : Env} {s : State} {m : MethodId} {args : Array Value} {below : List Frame} {meth : Method} {c : Code} {y : MethodName} {cc : ByteArray} {nL : Nat} {rt : Option FieldType} {dC : Nat → ClassId} {dI : Nat → Nat → Nat} {ad : Nat → Nat} {cA : Nat → ClassId} {LP : List Nat} {o : Nat → Int64} {A : Nat → Prop} {k : Nat → Nat} {I : sc_I} {D : sc_R} {d pc mid n idx : Nat} {H : Heap} {locs : List Loc} {ls : Array Slot} {As : List Value} {Qc : Array Value → State → Outcome → State → Prop} {E : String}
    (hM : vx_Met l (sc_y mid) (sc_ws (sc_y mid) (sc_c mid) (sc_nL mid) (sc_rt mid)) (tx_room 0) (va_Pc As (tx_Z A k)) (va_Qv (fun _ : Unit => False) (fun _ _ => True) (fun _ => False)) (tx_X E) 1 6 (fun _ => False)) (hMO : sc_MO mid n) (hn : As.length = n) (w1 : Cond.methodLink y.cls idx (sc_y mid) ∈ sc_G) (w2 : Cond.static (sc_y mid) ∈ sc_G)
    (hx : p.tables.exec = Jvm.exec) (hb : c.code = cc) (hml : c.maxLocals = nL) (hown : s.vm.findClass y.cls = some m.cls) (hts : ∀ w ∈ sc_ws y cc nL rt, w.before args s = true) (hlk : meth.locks = false) (htb : ∀ x ∈ c.exceptionTable.toList, False) (hsz : ls.size = nL)
    (hZ : tx_Z A k s) (hP : va_P (dC, dI) vwCl (sc_w ad cA LP o I D) H) (hS : va_S A s.heap H locs) (h : decode cc pc = .ok (.invokestatic idx, 3)) :
    W p l e (tx_room (d + 1)) s m args below meth c H locs 0 0 (vx_MQ below Qc (tx_XW dC dI ad cA LP o A I D E) args s 1 6 A) (F0 m pc ls As.reverse) := by
  obtain ⟨hm, hd, hnl, w5, w4⟩ := hMO
  have hg : GoodIn (sc_ws y cc nL rt) (va_wsS y.cls idx (sc_y mid) (sc_ws (sc_y mid) (sc_c mid) (sc_nL mid) (sc_rt mid))) := by
    intro w hw
    rcases List.mem_append.mp hw with hw | hw
    · simp only [List.mem_cons, List.not_mem_nil, or_false] at hw
      rcases hw with rfl | rfl | rfl
      · exact ⟨List.mem_cons_of_mem _ w1, sc_G_good w1⟩
      · exact ⟨List.mem_cons_of_mem _ w2, sc_G_good w2⟩
      · exact ⟨List.mem_cons_of_mem _ w4, sc_G_good w4⟩
    · exact sc_gws w5 w hw
  refine vx_callv (vx_runS (As := As) (rest := []) ⟨hx, hb, hml, hown, hts⟩ hM (va_cwS n hts hg rfl rfl rfl hd ⟨by show 6 + 0 + 1 ≤ 6 + (d + 1); omega, by show 8 + (sc_nL mid + 11) + (100 + 30 * 0) ≤ 100 + 30 * (d + 1); omega⟩) ⟨tx_blind, fun U hU hW => ⟨rfl, hZ.at hS hU hW⟩⟩ rfl hn hsz (by rw [List.append_nil]) (lv_room (by decide)) h ⟨Nat.le_refl _, Nat.le_refl _⟩) hS (fun q _ h => h.elim) (fun q h => h.elim) (fun q _ h => h.elim) ?_ ?_
  · intro E' ce q9 u t H1 locs1 ht hv _ hE hz hk hS1 hce hcv hcl
    subst hE
    have hP1 : va_P (dC, dI) vwCl (sc_w ad cA LP o I D) H1 := hP.kept (fun j q hj => hk q.1 (hP j q hj).lt (fun h => h))
    exact vx_out (fun x hx => (htb x hx).elim) hlk hce hcv hcl (fun t2 e2 _ => ⟨(), trivial, ⟨rfl, by rw [e2]; exact hP1⟩, by rw [e2]; exact hS1.1, fun q hq hA => by rw [e2]; exact hS1.2.1 q hq hA⟩) hS1.2.2 (by decide) (by decide)
  · exact fun _ _ _ _ _ _ hf => hf.elim
theorem tx_pub {l : Launch} {d : Nat} {dC : Nat → ClassId} {dI : Nat → Nat → Nat} {ad : Nat → Nat} {cA : Nat → ClassId} {LP : List Nat} {o : Nat → Int64} {A : Nat → Prop} {k : Nat → Nat} {mid : Nat} {as : List sc_V} {I : sc_I} {D : sc_R} {E : String} (hy : plainName (sc_y mid).cls = true) (hle : as.length ≤ sc_nL mid)
    (body : ∀ (Qc : Array Value → State → Outcome → State → Prop) (p : Program) (e : Env) (s : State) (m : MethodId) (args : Array Value) (below : List Frame) (meth : Method) (c : Code) (ls : Array Slot), p.tables.exec = Jvm.exec → c.code = sc_c mid → c.maxLocals = sc_nL mid → s.vm.findClass (sc_y mid).cls = some m.cls → (∀ w ∈ sc_ws (sc_y mid) (sc_c mid) (sc_nL mid) (sc_rt mid), w.before args s = true) → meth.locks = false → (∀ x ∈ c.exceptionTable.toList, False) → sc_KN dC dI cA s → va_P (dC, dI) vwCl (sc_w ad cA LP o I D) s.heap → tx_Z A k s → lv_has ls (sc_nL mid) (sc_lm ad (sc_al 0 as)) →
      W p l e (tx_room d) s m args below meth c s.heap [] 0 0 (vx_MQ below Qc (tx_XW dC dI ad cA LP o A I D E) args s 1 6 A) (F0 m 0 ls [])) : tx_Met l d dC dI ad cA LP o A k mid as I D E := by
  intro Qc
  refine vx_ofW (cc := sc_c mid) (maxL := sc_nL mid) (ret := sc_rt mid) hy rfl ?_
  intro p e s m args below meth c s₁ B hml htb hv
  obtain ⟨rfl, hK, hP, hZ⟩ := hv
  have hts := atoms_spec (ws := sc_ws (sc_y mid) (sc_c mid) (sc_nL mid) (sc_rt mid)) B.pre
  rw [lg_entry_eq]
  have hls := lv_entry (as.map (sc_tv ad)) (n := sc_nL mid) (by rw [sc_lg]; exact hle)
  rw [sc_al_map] at hls
  exact body Qc p e s m _ below meth c _ B.exec B.bytes hml (findClass_of_methodNamed B.named) hts B.notSynchronized htb hK hP hZ hls
set_option maxRecDepth 100000 in
theorem tx_poke {l : Launch} (hl : l.stackTraces = false) {dC : Nat → ClassId} {dI : Nat → Nat → Nat} {ad : Nat → Nat} {cA : Nat → ClassId} {LP : List Nat} {o : Nat → Int64} {A : Nat → Prop} {k : Nat → Nat} {I : sc_I} {D : sc_R} {w v : Int32} (h : ¬ (0 ≤ w ∧ w < 32)) : tx_Met l 1 dC dI ad cA LP o A k 10 [.inr (2, 0), .inl w, .inl v] I D tx_I := by
  refine tx_pub (by decide) (Nat.le_of_ble_eq_true rfl) ?_
  intro Qc p e s m args below meth c ls hx hb0 hml hown hts hlk htb hK hP hZ hls
  have hb : c.code = cX2_poke := hb0
  exact lv_iload_n hx hb dX2_poke_0 rfl (lv_at hls 1 rfl) (lv_bipush hx hb dX2_poke_1 rfl (tx_callC (d := 0) (As := [.int w, .int 32]) (tx_cI hl h) mo_8 rfl kM_2_44 kS_8 hx hb0 hml hown hts hlk htb hls.1 hZ hP va_S.rf dX2_poke_3))
set_option maxRecDepth 100000 in
theorem tx_peek {l : Launch} (hl : l.stackTraces = false) {dC : Nat → ClassId} {dI : Nat → Nat → Nat} {ad : Nat → Nat} {cA : Nat → ClassId} {LP : List Nat} {o : Nat → Int64} {A : Nat → Prop} {k : Nat → Nat} {I : sc_I} {D : sc_R} {w : Int32} (h : ¬ (0 ≤ w ∧ w < 32)) : tx_Met l 1 dC dI ad cA LP o A k 11 [.inr (2, 0), .inl w] I D tx_I := by
  refine tx_pub (by decide) (Nat.le_of_ble_eq_true rfl) ?_
  intro Qc p e s m args below meth c ls hx hb0 hml hown hts hlk htb hK hP hZ hls
  have hb : c.code = cX2_peek := hb0
  exact lv_iload_n hx hb dX2_peek_0 rfl (lv_at hls 1 rfl) (lv_bipush hx hb dX2_peek_1 rfl (tx_callC (d := 0) (As := [.int w, .int 32]) (tx_cI hl h) mo_8 rfl kM_2_44 kS_8 hx hb0 hml hown hts hlk htb hls.1 hZ hP va_S.rf dX2_peek_3))
set_option maxRecDepth 100000 in
theorem tx_register {l : Launch} (hl : l.stackTraces = false) {dC : Nat → ClassId} {dI : Nat → Nat → Nat} {ad : Nat → Nat} {cA : Nat → ClassId} {LP : List Nat} {o : Nat → Int64} {A : Nat → Prop} {k : Nat → Nat} {I : sc_I} {D : sc_R} {w : Int32} (h : ¬ (0 ≤ w ∧ w < 16)) : tx_Met l 1 dC dI ad cA LP o A k 13 [.inr (2, 0), .inl w] I D tx_I := by
  refine tx_pub (by decide) (Nat.le_of_ble_eq_true rfl) ?_
  intro Qc p e s m args below meth c ls hx hb0 hml hown hts hlk htb hK hP hZ hls
  have hb : c.code = cX2_register := hb0
  exact lv_iload_n hx hb dX2_register_0 rfl (lv_at hls 1 rfl) (lv_bipush hx hb dX2_register_1 rfl (tx_callC (d := 0) (As := [.int w, .int 16]) (tx_cI hl h) mo_8 rfl kM_2_44 kS_8 hx hb0 hml hown hts hlk htb hls.1 hZ hP va_S.rf dX2_register_3))
set_option maxRecDepth 100000 in
theorem tx_start {l : Launch} (hl : l.stackTraces = false) {dC : Nat → ClassId} {dI : Nat → Nat → Nat} {ad : Nat → Nat} {cA : Nat → ClassId} {LP : List Nat} {o : Nat → Int64} {A : Nat → Prop} {k : Nat → Nat} {I : sc_I} {D : sc_R} {w : Int32} (h : ¬ (0 ≤ w ∧ w < 64)) : tx_Met l 1 dC dI ad cA LP o A k 15 [.inr (2, 0), .inl w] I D tx_I := by
  refine tx_pub (by decide) (Nat.le_of_ble_eq_true rfl) ?_
  intro Qc p e s m args below meth c ls hx hb0 hml hown hts hlk htb hK hP hZ hls
  have hb : c.code = cX2_start := hb0
  exact lv_iload_n hx hb dX2_start_0 rfl (lv_at hls 1 rfl) (lv_bipush hx hb dX2_start_1 rfl (tx_callC (d := 0) (As := [.int w, .int 64]) (tx_cI hl h) mo_8 rfl kM_2_44 kS_8 hx hb0 hml hown hts hlk htb hls.1 hZ hP va_S.rf dX2_start_3))
set_option maxRecDepth 100000 in
theorem tx_handler {l : Launch} (hl : l.stackTraces = false) {dC : Nat → ClassId} {dI : Nat → Nat → Nat} {ad : Nat → Nat} {cA : Nat → ClassId} {LP : List Nat} {o : Nat → Int64} {A : Nat → Prop} {k : Nat → Nat} {I : sc_I} {D : sc_R} {w : Int32} (h : ¬ (0 ≤ w ∧ w < 64)) : tx_Met l 1 dC dI ad cA LP o A k 16 [.inr (2, 0), .inl w] I D tx_I := by
  refine tx_pub (by decide) (Nat.le_of_ble_eq_true rfl) ?_
  intro Qc p e s m args below meth c ls hx hb0 hml hown hts hlk htb hK hP hZ hls
  have hb : c.code = cX2_handler := hb0
  exact lv_iload_n hx hb dX2_handler_0 rfl (lv_at hls 1 rfl) (lv_bipush hx hb dX2_handler_1 rfl (tx_callC (d := 0) (As := [.int w, .int 64]) (tx_cI hl h) mo_8 rfl kM_2_44 kS_8 hx hb0 hml hown hts hlk htb hls.1 hZ hP va_S.rf dX2_handler_3))
set_option maxRecDepth 100000 in
theorem tx_stage {l : Launch} (hl : l.stackTraces = false) {dC : Nat → ClassId} {dI : Nat → Nat → Nat} {ad : Nat → Nat} {cA : Nat → ClassId} {LP : List Nat} {o : Nat → Int64} {A : Nat → Prop} {k : Nat → Nat} {I : sc_I} {D : sc_R} {w : Int32} (h : ¬ (0 ≤ w ∧ w < 5)) : tx_Met l 1 dC dI ad cA LP o A k 38 [.inr (2, 0), .inl w] I D tx_I := by
  refine tx_pub (by decide) (Nat.le_of_ble_eq_true rfl) ?_
  intro Qc p e s m args below meth c ls hx hb0 hml hown hts hlk htb hK hP hZ hls
  have hb : c.code = cX2_stage := hb0
  exact lv_iload_n hx hb dX2_stage_0 rfl (lv_at hls 1 rfl) (lv_iconst hx hb dX2_stage_1 rfl (tx_callC (d := 0) (As := [.int w, .int 5]) (tx_cI hl h) mo_8 rfl kM_2_44 kS_8 hx hb0 hml hown hts hlk htb hls.1 hZ hP va_S.rf dX2_stage_2))
set_option maxRecDepth 100000 in
theorem tx_counter {l : Launch} (hl : l.stackTraces = false) {dC : Nat → ClassId} {dI : Nat → Nat → Nat} {ad : Nat → Nat} {cA : Nat → ClassId} {LP : List Nat} {o : Nat → Int64} {A : Nat → Prop} {k : Nat → Nat} {I : sc_I} {D : sc_R} {w : Int32} (h : ¬ (0 ≤ w ∧ w < 8)) : tx_Met l 1 dC dI ad cA LP o A k 39 [.inr (2, 0), .inl w] I D tx_I := by
  refine tx_pub (by decide) (Nat.le_of_ble_eq_true rfl) ?_
  intro Qc p e s m args below meth c ls hx hb0 hml hown hts hlk htb hK hP hZ hls
  have hb : c.code = cX2_counter := hb0
  exact lv_iload_n hx hb dX2_counter_0 rfl (lv_at hls 1 rfl) (lv_bipush hx hb dX2_counter_1 rfl (tx_callC (d := 0) (As := [.int w, .int 8]) (tx_cI hl h) mo_8 rfl kM_2_44 kS_8 hx hb0 hml hown hts hlk htb hls.1 hZ hP va_S.rf dX2_counter_3))
set_option maxRecDepth 100000 in
theorem tx_set {l : Launch} (hl : l.stackTraces = false) {dC : Nat → ClassId} {dI : Nat → Nat → Nat} {ad : Nat → Nat} {cA : Nat → ClassId} {LP : List Nat} {o : Nat → Int64} {A : Nat → Prop} {k : Nat → Nat} {I : sc_I} {D : sc_R} {w v : Int32} (h : ¬ (0 ≤ w ∧ w < 16)) : tx_Met l 1 dC dI ad cA LP o A k 12 [.inr (2, 0), .inl w, .inl v] I D tx_I := by
  refine tx_pub (by decide) (Nat.le_of_ble_eq_true rfl) ?_
  intro Qc p e s m args below meth c ls hx hb0 hml hown hts hlk htb hK hP hZ hls
  have hb : c.code = cX2_set := hb0
  exact lv_iload_n hx hb dX2_set_0 rfl (lv_at hls 1 rfl) (lv_bipush hx hb dX2_set_1 rfl (tx_callC (d := 0) (As := [.int w, .int 16]) (tx_cI hl h) mo_8 rfl kM_2_44 kS_8 hx hb0 hml hown hts hlk htb hls.1 hZ hP va_S.rf dX2_set_3))
set_option maxRecDepth 100000 in
theorem tx_cycles {l : Launch} (hl : l.stackTraces = false) {dC : Nat → ClassId} {dI : Nat → Nat → Nat} {ad : Nat → Nat} {cA : Nat → ClassId} {LP : List Nat} {o : Nat → Int64} {A : Nat → Prop} {k : Nat → Nat} {I : sc_I} {D : sc_R} {w : Int32} (h : ¬ (1 ≤ w ∧ w ≤ 300)) : tx_Met l 1 dC dI ad cA LP o A k 37 [.inr (2, 0), .inl w] I D tx_A := by
  refine tx_pub (by decide) (Nat.le_of_ble_eq_true rfl) ?_
  intro Qc p e s m args below meth c ls hx hb0 hml hown hts hlk htb hK hP hZ hls
  have hb : c.code = cX2_cycles := hb0
  exact lv_iload_n hx hb dX2_cycles_0 rfl (lv_at hls 1 rfl) (lv_iconst hx hb dX2_cycles_1 rfl (lv_sipush hx hb dX2_cycles_2 rfl (tx_callC (d := 0) (As := [.int w, .int 1, .int 300]) (tx_cA hl h) mo_9 rfl kM_2_48 kS_9 hx hb0 hml hown hts hlk htb hls.1 hZ hP va_S.rf dX2_cycles_5)))
