theorem tx_throwW {p : Program} {l : Launch} {e : Env} {s : State} {m : MethodId} {args : Array Value} {below : List Frame} {meth : Method} {c : Code} {y : MethodName} {cc : ByteArray} {nL : Nat} {rt : Option FieldType} {dC : Nat → ClassId} {dI : Nat → Nat → Nat} {ad : Nat → Nat} {cA : Nat → ClassId} {LP : List Nat} {o : Nat → Int64} {A : Nat → Prop} {k : Nat → Nat} {I : sc_I} {D : sc_R} {H : Heap} {locs : List Loc} {d pc : Nat} {ls : Array Slot} {Qc : Array Value → State → Outcome → State → Prop} {E text : String} {ik is ic sa : Nat}
    (hl : l.stackTraces = false) (hx : p.tables.exec = Jvm.exec) (hb : c.code = cc) (hml : c.maxLocals = nL) (hown : s.vm.findClass RX2 = some m.cls) (hts : ∀ w ∈ sc_ws y cc nL rt, w.before args s = true) (hlk : meth.locks = false) (htb : ∀ x ∈ c.exceptionTable.toList, False) (hsz : ls.size = nL)
    (hZ : tx_Z A k s) (hP : va_P (dC, dI) vwCl (sc_w ad cA LP o I D) H) (hS : va_S A s.heap H locs) (hR : vk_R RX2 is text sa s) (hE : Bundle.fit E = true)
    (g : (Cond.classLink RX2 ik E :: Cond.initialized E :: (vx_atS RX2 ic E tx_n).filter goodWord).all (fun w => decide (w ∈ lw_tbl) && goodWord w) = true) (o1 : (Cond.classLink RX2 ik E :: Cond.initialized E :: vx_atS RX2 ic E tx_n).all vx_ot = true) (b : ((vx_atS RX2 ic E tx_n).filter (fun w => !goodWord w)).all (fun w => decide (w ∈ tx_B)) = true)
    (d0 : decode cc pc = .ok (.new ik, 3)) (d3 : decode cc (pc + 3) = .ok (.dup, 1)) (d4 : decode cc (pc + 4) = .ok (.ldc is, 2)) (d6 : decode cc (pc + 6) = .ok (.invokespecial ic, 3)) (d9 : decode cc (pc + 9) = .ok (.athrow, 1)) :
    W p l e (tx_room d) s m args below meth c H locs 0 0 (vx_MQ below Qc (tx_XW dC dI ad cA LP o A I D E) args s 1 6 A) (F0 m pc ls []) := by
  obtain ⟨hU, hN, z3, z4, z5, z6, hC, _⟩ := id hZ
  have hin : ∀ w ∈ (Cond.classLink RX2 ik E :: Cond.initialized E :: (vx_atS RX2 ic E tx_n).filter goodWord), w.before args s = true := fun w hw => hts w (List.mem_cons_of_mem _ (tx_in g hw))
  refine vx_throwS (own := RX2) (cls := E) (text := text) (names := tx_n) (ik := ik) (is := is) (ic := ic) (sa := sa) (A := A) hx hb hl hown hE (by decide) (hin _ List.mem_cons_self) (hin _ (List.mem_cons_of_mem _ List.mem_cons_self)) hR ?_ (fun w hw => List.all_eq_true.mp o1 w hw) hU hN hS (by rw [hsz, hml]) d0 d3 d4 d6 d9 (fun x hx => (htb x hx).elim) ?_ ?_ ?_ ?_ hlk ?_ hS.2.2 (by decide) (by decide)
  · exact vx_hat (B := tx_B) (fun w hw => hin w (List.mem_cons_of_mem _ (List.mem_cons_of_mem _ hw))) (fun w hw => of_decide_eq_true (List.all_eq_true.mp b w hw)) (fun w hw => va_Nw.use (List.all_eq_true.mp tx_Bt w hw) (hC w hw))
  · show 2 + 3 < 6 + d
    omega
  · show 0 + (13 * (2 + 1) + 43) ≤ 100 + 30 * d
    omega
  · show 0 + 1 ≤ 1
    omega
  · show 0 + 6 ≤ 6
    omega
  · intro t _ h1 h2
    exact ⟨(), trivial, ⟨rfl, hP.kept (fun j q hj => h2 q.1 (hP j q hj).lt)⟩, Nat.le_trans hS.1 h1, fun q hq hA => by rw [h2 q (Nat.lt_of_lt_of_le hq hS.1)]; exact hS.2.1 q hq hA⟩
/-- a static call that returns, on the way to a throw -/
theorem tx_passC {p : Program} {l : Launch} {e : Env} {R : Room} {s : State} {m : MethodId} {args : Array Value} {below : List Frame} {meth : Method} {c : Code} {y : MethodName} {cc : ByteArray} {nL : Nat} {rt : Option FieldType} {dC : Nat → ClassId} {dI : Nat → Nat → Nat} {ad : Nat → Nat} {cA : Nat → ClassId} {LP : List Nat} {o : Nat → Int64} {A : Nat → Prop} {I : sc_I} {D : sc_R} {d pc mid n idx : Nat} {H : Heap} {locs : List Loc} {ls : Array Slot} {as : List sc_V} {K : sc_RT} {Qf : State → Prop} {rest : List Value} {cells slots : Nat}
    (hMt : sc_Met l d dC dI ad cA LP o A mid as I D K) (hMO : sc_MO mid n) (hlen : as.length = n) (w1 : Cond.methodLink y.cls idx (sc_y mid) ∈ sc_G) (w2 : Cond.static (sc_y mid) ∈ sc_G)
    (hx : p.tables.exec = Jvm.exec) (hb : c.code = cc) (hml : c.maxLocals = nL) (hown : s.vm.findClass y.cls = some m.cls) (hts : ∀ w ∈ sc_ws y cc nL rt, w.before args s = true) (hsz : ls.size = nL) (hKN : sc_KN dC dI cA s)
    (hR1 : d + 1 ≤ R.frames) (hR2 : 30 * (d + 1) ≤ R.locals) (hR3 : cells ≤ R.cells) (hR4 : slots ≤ R.slots) (hrest : (rest.map fun v => v.category).sum ≤ 8)
    (hP : va_P (dC, dI) vwCl (sc_w ad cA LP o I D) H) (hS : va_S A s.heap H locs) (h : decode cc pc = .ok (.invokestatic idx, 3))
    (kk : ∀ (r : Option sc_V) (I : sc_I) (D : sc_R) (H1 : Heap) (locs1 : List Loc), K r I D → sc_vd LP D → va_P (dC, dI) vwCl (sc_w ad cA LP o I D) H1 → va_S A s.heap H1 locs1 → W p l e R s m args below meth c H1 locs1 cells slots Qf (F0 m (pc + 3) ls ((r.map (sc_tv ad)).toList ++ rest))) :
    W p l e R s m args below meth c H locs cells slots Qf (F0 m pc ls ((as.map (sc_tv ad)).reverse ++ rest)) := by
  obtain ⟨hm, hd, hnl, w5, w4⟩ := hMO
  have hg : GoodIn (sc_ws y cc nL rt) (va_wsS y.cls idx (sc_y mid) (sc_ws (sc_y mid) (sc_c mid) (sc_nL mid) (sc_rt mid))) := by
    intro w hw
    rcases List.mem_append.mp hw with hw | hw
    · simp only [List.mem_cons, List.not_mem_nil, or_false] at hw
      rcases hw with rfl | rfl | rfl
      · exact ⟨List.mem_cons_of_mem _ w1, sc_G_good w1⟩
      · exact ⟨List.mem_cons_of_mem _ w2, sc_G_good w2⟩
      · exact ⟨List.mem_cons_of_mem _ w4, sc_G_good w4⟩
    · exact sc_gws w5 w hw
  refine sc_call (va_runS (As := as.map (sc_tv ad)) (rest := rest) ⟨hx, hb, hml, hown, hts⟩ hMt (va_cwS n hts hg rfl rfl rfl hd ⟨hR1, by show 8 + (sc_nL mid + 11) + 30 * d ≤ R.locals; omega⟩) ⟨sc_blind, fun U hU hW => ⟨rfl, sc_KN_warm hW hKN, by rw [hU]; exact hP⟩⟩ rfl (by rw [List.length_map]; exact hlen) hsz rfl (lv_room hrest) h ⟨hR3, hR4⟩) hS (fun v I' D' H1 locs1 hq hok hvd hP hS => ?_)
  exact kk v I' D' H1 locs1 hq hvd hP hS
/-- the checks that pass -/
def tx_K0 (I : sc_I) (D : sc_R) : sc_RT := fun r I' D' => r = none ∧ I' = I ∧ D' = D
theorem tx_pI {l : Launch} {dC : Nat → ClassId} {dI : Nat → Nat → Nat} {ad : Nat → Nat} {cA : Nat → ClassId} {LP : List Nat} {o : Nat → Int64} {A : Nat → Prop} {I : sc_I} {D : sc_R} (hD : ∀ I D, va_D A (sc_w ad cA LP o I D)) (hv : sc_vd LP D) {v n : Int32} (h : 0 ≤ v ∧ v < n) : sc_Met l 1 dC dI ad cA LP o A 8 [.inl v, .inl n] I D (tx_K0 I D) :=
  sc_sound l dC dI ad cA LP o A hD 1 8 [.inl v, .inl n] I D (tx_K0 I D) mo_8.1 (x_checkIdx 0 I D _ v n h ⟨rfl, rfl, rfl⟩) (fun v hv => by
    simp only [List.mem_cons, List.not_mem_nil, or_false] at hv
    rcases hv with rfl | rfl <;> trivial) hv
theorem tx_pA {l : Launch} {dC : Nat → ClassId} {dI : Nat → Nat → Nat} {ad : Nat → Nat} {cA : Nat → ClassId} {LP : List Nat} {o : Nat → Int64} {A : Nat → Prop} {I : sc_I} {D : sc_R} (hD : ∀ I D, va_D A (sc_w ad cA LP o I D)) (hv : sc_vd LP D) {v lo hi : Int32} (h : lo ≤ v ∧ v ≤ hi) : sc_Met l 1 dC dI ad cA LP o A 9 [.inl v, .inl lo, .inl hi] I D (tx_K0 I D) :=
  sc_sound l dC dI ad cA LP o A hD 1 9 [.inl v, .inl lo, .inl hi] I D (tx_K0 I D) mo_9.1 (x_checkArg 0 I D _ v lo hi h ⟨rfl, rfl, rfl⟩) (fun v hv => by
    simp only [List.mem_cons, List.not_mem_nil, or_false] at hv
    rcases hv with rfl | rfl | rfl <;> trivial) hv
set_option maxRecDepth 100000 in
theorem tx_set0 {l : Launch} (hl : l.stackTraces = false) {dC : Nat → ClassId} {dI : Nat → Nat → Nat} {ad : Nat → Nat} {cA : Nat → ClassId} {LP : List Nat} {o : Nat → Int64} {A : Nat → Prop} {k : Nat → Nat} {I : sc_I} {D : sc_R} (hD : ∀ I D, va_D A (sc_w ad cA LP o I D)) (hv : sc_vd LP D) {v : Int32} : tx_Met l 1 dC dI ad cA LP o A k 12 [.inr (2, 0), .inl 0, .inl v] I D tx_I := by
  refine tx_pub (by decide) (Nat.le_of_ble_eq_true rfl) ?_
  intro Qc p e s m args below meth c ls hx hb0 hml hown hts hlk htb hK hP hZ hls
  have hb : c.code = cX2_set := hb0
  refine lv_iload_n hx hb dX2_set_0 rfl (lv_at hls 1 rfl) (lv_bipush hx hb dX2_set_1 rfl ?_)
  refine tx_passC (rest := []) (tx_pI hD hv (v := 0) (n := 16) (by decide)) mo_8 rfl kM_2_44 kS_8 hx hb0 hml hown hts hls.1 hK (by decide) (by decide) (by decide) (by decide) (by decide) hP va_S.rf dX2_set_3 ?_
  rintro r I' D' H1 locs1 ⟨rfl, rfl, rfl⟩ _ hP1 hS1
  refine lv_iload_n hx hb dX2_set_6 rfl (lv_at hls 1 rfl) ?_
  refine lv_if_ne hx hb dX2_set_7 (tgt := 20) (by decide) (fun z => absurd rfl z) (fun _ => ?_)
  exact tx_throwW hl hx hb0 hml hown hts hlk htb hls.1 hZ hP1 hS1 hZ.2.2.2.2.1 (by decide) tx_gI tx_oI tx_bI dX2_set_10 dX2_set_13 dX2_set_14 dX2_set_16 dX2_set_19
set_option maxRecDepth 100000 in
theorem tx_count {l : Launch} (hl : l.stackTraces = false) {dC : Nat → ClassId} {dI : Nat → Nat → Nat} {ad : Nat → Nat} {cA : Nat → ClassId} {LP : List Nat} {o : Nat → Int64} {A : Nat → Prop} {k : Nat → Nat} {I : sc_I} {D : sc_R} {w : Int32} (h : ¬ (0 ≤ w ∧ w ≤ 8)) : tx_Met l 1 dC dI ad cA LP o A k 41 [.inr (2, 0), .inl w] I D tx_A := by
  refine tx_pub (by decide) (Nat.le_of_ble_eq_true rfl) ?_
  intro Qc p e s m args below meth c ls hx hb0 hml hown hts hlk htb hK hP hZ hls
  have hb : c.code = cX2_count := hb0
  refine lv_iload_n hx hb dX2_count_0 rfl (lv_at hls 1 rfl) ?_
  refine lv_tableOut hx hb dX2_count_1 (tgt := 105) ?_ (by decide) ?_
  · rw [Int32.le_iff_toInt_le, Int32.le_iff_toInt_le, show (0 : Int32).toInt = 0 from rfl, show (8 : Int32).toInt = 8 from rfl] at h
    omega
  · exact tx_throwW hl hx hb0 hml hown hts hlk htb hls.1 hZ hP va_S.rf hZ.2.2.2.2.2.1 (by decide) tx_gA tx_oA tx_bA dX2_count_105 dX2_count_108 dX2_count_109 dX2_count_111 dX2_count_114
