/-! the law's loop: its steps -/
def lz_C (p : Program) (l : Launch) (s : State) (m : MethodId) (args : Array Value) (c : Code) (dC : Nat → ClassId) (dI : Nat → Nat → Nat) (cA : Nat → ClassId) (A : Nat → Prop) (k : Nat → Nat) (b L : Nat) (xs : Nat → Int32) : Prop := (p.tables.exec = Jvm.exec ∧ c.code = cL_law ∧ c.maxLocals = 9 ∧ s.vm.findClass RL = some m.cls ∧ ∀ w ∈ lw_tbl, w.before args s = true) ∧ (sc_KN dC dI cA s ∧ tx_Z A k s ∧ l.stackTraces = false) ∧ va_X b L xs s s.heap ∧ b < s.heap.size ∧ ¬ A b ∧ ∀ q, s.heap.size ≤ q → A q
abbrev lz_lv (ad : Nat → Nat) (b i : Nat) : List (Nat × Value) := [(4, .int (nI i)), (3, .ref (ad 10)), (2, .ref (ad 1)), (1, .ref (ad 0)), (0, .ref b)]
def lz_I (dC : Nat → ClassId) (dI : Nat → Nat → Nat) (ad : Nat → Nat) (cA : Nat → ClassId) (A : Nat → Prop) (s : State) (LP : List Nat) (o : Nat → Int64) (I : sc_I) (D : sc_R) (S : sc_I) (N : Nat) (H : Heap) (locs : List Loc) : Prop := va_P (dC, dI) vwCl (sc_w ad cA LP o I D) H ∧ va_D A (sc_w ad cA LP o I D) ∧ va_S A s.heap H locs ∧ sc_vd LP D ∧ c_AB I D S ∧ r_R N S I
theorem lz_sub : ∀ w ∈ sc_G, w ∈ lw_tbl := fun _ h => (List.mem_filter.mp h).1
theorem lz_cmp (x : Int64) : lg_cmp x x = 0 := by
  unfold lg_cmp
  simp
set_option maxRecDepth 100000 in
theorem lz_m42 : sc_MO 42 0 := ⟨by decide, ⟨by decide, by decide, by decide +kernel⟩, by decide, sc_inG 546 rfl rfl, sc_inG 4 (by decide +kernel) (by decide +kernel)⟩
set_option maxRecDepth 100000 in
theorem lz_t1 : Cond.methodLink RL 63 (sc_y 42) ∈ sc_G := sc_inG 543 (by decide +kernel) (by decide +kernel)
set_option maxRecDepth 100000 in
theorem lz_t2 : Cond.instanceMethod (sc_y 42) ∈ sc_G := sc_inG 544 (by decide +kernel) (by decide +kernel)
set_option maxRecDepth 100000 in
theorem lz_t3 : Cond.selects RX3 (sc_y 42) (sc_y 42) ∈ sc_G := sc_inG 545 (by decide +kernel) (by decide +kernel)
section
variable {p : Program} {l : Launch} {e : Env} {s : State} {m : MethodId} {args : Array Value} {below : List Frame} {meth : Method} {c : Code} {Qf : State → Prop} {dC : Nat → ClassId} {dI : Nat → Nat → Nat} {ad : Nat → Nat} {cA : Nat → ClassId} {A : Nat → Prop} {k : Nat → Nat} {b L : Nat} {xs : Nat → Int32} {H : Heap} {locs : List Loc} {cells slots pc i : Nat} {ls : Array Slot} {LP : List Nat} {o : Nat → Int64} {I : sc_I} {D : sc_R} {S : sc_I} {N : Nat}
theorem lz_ld (C : lz_C p l s m args c dC dI cA A k b L xs) {n : Nat} {v : Int} {rest : List Value} (hS : va_S A s.heap H locs) (hl0 : ls[0]? = some (.val (.ref b))) (hl4 : ls[4]? = some (.val (.int (nI i)))) (hn : i + n < L) (hL : L ≤ 3584) (hv : Int32.ofInt v = nI n) (d0 : decode cL_law pc = .ok (.aload_n 0, 1)) (d1 : decode cL_law (pc + 1) = .ok (.iload 4, 2)) (d2 : decode cL_law (pc + 3) = .ok (.iconst v, 1)) (d3 : decode cL_law (pc + 4) = .ok (.iadd, 1)) (d4 : decode cL_law (pc + 5) = .ok (.iaload, 1))
    (kk : W p l e room_1 s m args below meth c H locs cells slots Qf (F0 m (pc + 6) ls (.int (xs (i + n)) :: rest))) : W p l e room_1 s m args below meth c H locs cells slots Qf (F0 m pc ls rest) := by
  obtain ⟨⟨hx, hb, -, -, -⟩, -, hX, hbl, hbA, -⟩ := C
  refine lv_aload_n hx hb d0 rfl hl0 ?_
  refine lv_iload hx hb d1 hl4 ?_
  refine lv_iconst hx hb d2 hv ?_
  refine lv_iadd hx hb d3 ?_
  rw [nI_add]
  refine va_sld hx hb hX hbl hbA hS (vp_in_nI hn (by omega)) d4 ?_
  rw [nI_clamp (show i + n < 2 ^ 31 by omega)]
  exact kk
theorem lz_ldb (C : lz_C p l s m args c dC dI cA A k b L xs) {n : Nat} {v : Int} {rest : List Value} (hS : va_S A s.heap H locs) (hl0 : ls[0]? = some (.val (.ref b))) (hl4 : ls[4]? = some (.val (.int (nI i)))) (hn : i + n < L) (hL : L ≤ 3584) (hv : (Int8.ofInt v).toInt32 = nI n) (d0 : decode cL_law pc = .ok (.aload_n 0, 1)) (d1 : decode cL_law (pc + 1) = .ok (.iload 4, 2)) (d2 : decode cL_law (pc + 3) = .ok (.bipush v, 2)) (d3 : decode cL_law (pc + 5) = .ok (.iadd, 1)) (d4 : decode cL_law (pc + 6) = .ok (.iaload, 1))
    (kk : W p l e room_1 s m args below meth c H locs cells slots Qf (F0 m (pc + 7) ls (.int (xs (i + n)) :: rest))) : W p l e room_1 s m args below meth c H locs cells slots Qf (F0 m pc ls rest) := by
  obtain ⟨⟨hx, hb, -, -, -⟩, -, hX, hbl, hbA, -⟩ := C
  refine lv_aload_n hx hb d0 rfl hl0 ?_
  refine lv_iload hx hb d1 hl4 ?_
  refine lv_bipush hx hb d2 hv ?_
  refine lv_iadd hx hb d3 ?_
  rw [nI_add]
  refine va_sld hx hb hX hbl hbA hS (vp_in_nI hn (by omega)) d4 ?_
  rw [nI_clamp (show i + n < 2 ^ 31 by omega)]
  exact kk
theorem lz_call {R : Room} {mc ms : Nat} {st0 rest : List Value} {Kw : lx_KT} {a : Array Value} (hr : va_Run p l e R s m args below meth c H locs cells slots mc ms (F0 m pc ls st0) rest (lx_Qc dC dI ad cA LP A Kw a) A) (hS : va_S A s.heap H locs)
    (kk : ∀ (r : Int32) (o : Nat → Int64) (I : sc_I) (D : sc_R) (H1 : Heap) (locs1 : List Loc), Kw r o I D → sc_vd LP D → va_P (dC, dI) vwCl (sc_w ad cA LP o I D) H1 → va_S A s.heap H1 locs1 → W p l e R s m args below meth c H1 locs1 (cells + mc) (slots + ms) Qf (F0 m (pc + 3) ls (.int r :: rest))) : W p l e R s m args below meth c H locs cells slots Qf (F0 m pc ls st0) := by
  intro T hT X
  obtain ⟨v, st₀, t, T', L, h0, X', hL, e1, e2, ⟨r, o, I, D, hv, hk0, hvd, hP, hz, hk⟩, st⟩ := hr T hT X
  cases hv
  rw [h0] at hz hk
  obtain ⟨t2, a1, b1⟩ := kk r o I D T'.heap (locs ++ L) hk0 hvd (by rw [e1]; exact hP)
    ⟨Nat.le_trans hS.1 (by rw [e1]; exact hz), fun q h1 h2 => by rw [e1, hk q (Nat.lt_of_lt_of_le h1 hS.1) h2]; exact hS.2.1 q h1 h2, fun q hq => (List.mem_append.mp hq).elim (hS.2.2 q) (hL q)⟩ T' rfl X'
  exact ⟨t2, st t2 a1, b1⟩
theorem lz_good {y : MethodName} {cc : ByteArray} {nL idx : Nat} {hh : List (Nat × Nat × Nat × Nat)} (hc : y.cls = RL) (w1 : Cond.methodLink RL idx y ∈ sc_G) (w2 : Cond.static y ∈ sc_G) (w3 : Cond.codeWith y cc nL (some .int) hh ∈ sc_G) : GoodIn lw_tbl (va_wsS RL idx y (lx_ws y cc nL hh)) := by
  have w0 : Cond.initialized y.cls ∈ sc_G := by
    rw [hc]
    exact sc_inG 0 rfl rfl
  intro w hw
  rcases List.mem_append.mp hw with hw | hw
  · simp only [List.mem_cons, List.not_mem_nil, or_false] at hw
    rcases hw with rfl | rfl | rfl
    · exact ⟨lz_sub _ w1, sc_G_good w1⟩
    · exact ⟨lz_sub _ w2, sc_G_good w2⟩
    · exact ⟨lz_sub _ w0, sc_G_good w0⟩
  · rcases List.mem_cons.mp hw with rfl | hw
    · exact ⟨lz_sub _ w3, sc_G_good w3⟩
    · exact ⟨lz_sub _ hw, sc_G_good hw⟩
theorem lz_wrap (C : lz_C p l s m args c dC dI cA A k b L xs) {y : MethodName} {cc : ByteArray} {nL idx n : Nat} {hh : List (Nat × Nat × Nat × Nat)} {as : List sc_V} {Kw : lx_KT} (hM : lx_Met l dC dI ad cA LP o A k y cc nL hh as I D Kw) (hc : y.cls = RL) (hd : (parseMethodDescriptor y.desc).map (fun d => d.parameters.length) = some n) (hlen : as.length = n) (hnL : nL ≤ 8) (w1 : Cond.methodLink RL idx y ∈ sc_G) (w2 : Cond.static y ∈ sc_G) (w3 : Cond.codeWith y cc nL (some .int) hh ∈ sc_G) (hP : va_P (dC, dI) vwCl (sc_w ad cA LP o I D) H) (hS : va_S A s.heap H locs) (hsz : ls.size = 9) (hc1 : cells + 1 ≤ 636560) (hc2 : slots + 6 ≤ 7186423) (d : decode cL_law pc = .ok (.invokestatic idx, 3))
    (kk : ∀ (r : Int32) (o : Nat → Int64) (I : sc_I) (D : sc_R) (H1 : Heap) (locs1 : List Loc), Kw r o I D → sc_vd LP D → va_P (dC, dI) vwCl (sc_w ad cA LP o I D) H1 → va_S A s.heap H1 locs1 → W p l e room_1 s m args below meth c H1 locs1 (cells + 1) (slots + 6) Qf (F0 m (pc + 3) ls [.int r])) : W p l e room_1 s m args below meth c H locs cells slots Qf (F0 m pc ls ((as.map (sc_tv ad)).reverse ++ [])) := by
  obtain ⟨⟨hx, hb, hml, hown, hts⟩, ⟨hKN, hZ, hst⟩, -⟩ := C
  exact lz_call (vx_runSW (As := as.map (sc_tv ad)) (rest := []) ⟨hx, hb, hml, hown, hts⟩ hM (vx_cwSW n hts (lz_good hc w1 w2 w3) rfl rfl rfl ⟨by rw [hc]; decide, by rw [hc]; decide, hd⟩ ⟨by decide, by show 8 + (nL + 11) + 240 ≤ 404; omega⟩) ⟨lx_blind, fun U hU hW => ⟨rfl, sc_KN_warm hW hKN, by rw [hU]; exact hP, hZ.at hS hU hW⟩⟩ rfl (by rw [List.length_map]; exact hlen) hsz rfl (lv_room (Nat.le_of_ble_eq_true rfl)) d ⟨hc1, hc2⟩) hS kk
/-- the reference's answer is on the stack: the comparisons -/
theorem lz_tail (C : lz_C p l s m args c dC dI cA A k b L xs) {t : Nat} {off : Int} {kr bb : Int32} (hI : lz_I dC dI ad cA A s LP o I D S N H locs) (h3 : I 3 0 0 = kr) (hba : kr = 0 → o 0 = bb.toInt64) (hl : lv_has ls 9 ((5, .int kr) :: lz_lv ad b i)) (hc1 : cells ≤ 636560) (hc2 : slots ≤ 7186423)
    (d0 : decode cL_law t = .ok (.istore 6, 2)) (d2 : decode cL_law (t + 2) = .ok (.aload_n 2, 1)) (d3 : decode cL_law (t + 3) = .ok (.invokevirtual 63, 3)) (d6 : decode cL_law (t + 6) = .ok (.iload 5, 2)) (d8 : decode cL_law (t + 8) = .ok (.if_icmp .eq 5, 3)) (d13 : decode cL_law (t + 13) = .ok (.iload 5, 2)) (d15 : decode cL_law (t + 15) = .ok (.ifCond .ne 15, 3)) (d18 : decode cL_law (t + 18) = .ok (.aload_n 3, 1)) (d19 : decode cL_law (t + 19) = .ok (.iconst 0, 1)) (d20 : decode cL_law (t + 20) = .ok (.laload, 1)) (d21 : decode cL_law (t + 21) = .ok (.iload 6, 2)) (d23 : decode cL_law (t + 23) = .ok (.i2l, 1)) (d24 : decode cL_law (t + 24) = .ok (.lcmp, 1)) (d25 : decode cL_law (t + 25) = .ok (.ifCond .eq 5, 3)) (d30 : decode cL_law (t + 30) = .ok (.goto off, 3)) (hoff : ((t + 30 : Nat) : Int) + off = ((869 : Nat) : Int))
    (kk : ∀ (ls : Array Slot) (H : Heap) (locs : List Loc), lv_has ls 9 (lz_lv ad b i) → lz_I dC dI ad cA A s LP o I D S N H locs → W p l e room_1 s m args below meth c H locs cells slots Qf (F0 m 869 ls [])) : W p l e room_1 s m args below meth c H locs cells slots Qf (F0 m t ls [.int bb]) := by
  obtain ⟨⟨hx, hb, hml, hown, hts⟩, ⟨hKN, -, -⟩, -⟩ := C
  obtain ⟨hP, hD, hS, hvd, hAB, hR⟩ := hI
  refine lv_istore (lv' := [(6, .int bb), (5, .int kr), (4, .int (nI i)), (3, .ref (ad 10)), (2, .ref (ad 1)), (1, .ref (ad 0)), (0, .ref b)]) hx hb d0 hl (by decide) rfl (fun ls hl => ?_)
  refine lv_aload_n hx hb d2 rfl (lv_at hl 4 rfl) ?_
  refine lx_callV (as := []) (rest := []) (k1 := 3) (i := 0) (n := 0) lz_sub (sc_sound l dC dI ad cA LP o A (sc_D_any hD o) 1 42 [.inr (3, 0)] I D (fun r I' D' => r = some (.inl (I 3 0 0)) ∧ I' = I ∧ D' = D) (by decide) (x_m_thrown 0 I D _ ⟨rfl, rfl, rfl⟩) (st_ok3 []) hvd) lz_m42 rfl (by decide) rfl rfl lz_t1 lz_t2 lz_t3 hx hb hml hown hts hl.1 hKN (by decide) (by decide) hc1 hc2 (Nat.le_of_ble_eq_true rfl) hP hS d3 ?_
  rintro r I' D' H1 locs1 ⟨rfl, rfl, rfl⟩ _ hP1 hS1
  have hgo : W p l e room_1 s m args below meth c H1 locs1 cells slots Qf (F0 m (t + 30) ls []) := lv_goto (tgt := 869) hx hb d30 hoff (kk ls H1 locs1 (lv_sub hl [2, 3, 4, 5, 6] rfl) ⟨hP1, hD, hS1, hvd, hAB, hR⟩)
  refine lv_iload hx hb d6 (lv_at hl 1 rfl) ?_
  refine lv_icmp_eq (x := I' 3 0 0) (tgt := t + 13) hx hb d8 (by omega) (fun _ => ?_) (fun z => absurd h3 z)
  refine lv_iload hx hb d13 (lv_at hl 1 rfl) ?_
  refine lv_if_ne (tgt := t + 30) hx hb d15 (by omega) (fun _ => hgo) (fun z => ?_)
  refine lv_aload_n hx hb d18 rfl (lv_at hl 3 rfl) ?_
  refine lv_iconst (v := 0) hx hb d19 (by decide) ?_
  refine va_lald hx hb hKN.1 hP1 10 26 lx_w_out lx_ty26 lx_v0 d20 ?_
  refine lv_iload hx hb d21 (lv_at hl 0 rfl) ?_
  refine lv_i2l hx hb d23 rfl ?_
  refine W.lcmp hx hb d24 ?_
  refine lv_if_eq (tgt := t + 30) hx hb d25 (by omega) (fun _ => hgo) (fun y => absurd ?_ y)
  rw [show (0 : Int32).toNatClampNeg = 0 from rfl, hba z]
  exact lz_cmp _
theorem lz_tail0 (C : lz_C p l s m args c dC dI cA A k b L xs) {t : Nat} {off : Int} {kr : Int32} (hI : lz_I dC dI ad cA A s LP o I D S N H locs) (h3 : I 3 0 0 = kr) (hl : lv_has ls 9 ((5, .int kr) :: lz_lv ad b i)) (hc1 : cells ≤ 636560) (hc2 : slots ≤ 7186423)
    (d2 : decode cL_law t = .ok (.aload_n 2, 1)) (d3 : decode cL_law (t + 1) = .ok (.invokevirtual 63, 3)) (d6 : decode cL_law (t + 4) = .ok (.iload 5, 2)) (d8 : decode cL_law (t + 6) = .ok (.if_icmp .eq 5, 3)) (d30 : decode cL_law (t + 11) = .ok (.goto off, 3)) (hoff : ((t + 11 : Nat) : Int) + off = ((869 : Nat) : Int))
    (kk : ∀ (ls : Array Slot) (H : Heap) (locs : List Loc), lv_has ls 9 (lz_lv ad b i) → lz_I dC dI ad cA A s LP o I D S N H locs → W p l e room_1 s m args below meth c H locs cells slots Qf (F0 m 869 ls [])) : W p l e room_1 s m args below meth c H locs cells slots Qf (F0 m t ls []) := by
  obtain ⟨⟨hx, hb, hml, hown, hts⟩, ⟨hKN, -, -⟩, -⟩ := C
  obtain ⟨hP, hD, hS, hvd, hAB, hR⟩ := hI
  refine lv_aload_n hx hb d2 rfl (lv_at hl 3 rfl) ?_
  refine lx_callV (as := []) (rest := []) (k1 := 3) (i := 0) (n := 0) lz_sub (sc_sound l dC dI ad cA LP o A (sc_D_any hD o) 1 42 [.inr (3, 0)] I D (fun r I' D' => r = some (.inl (I 3 0 0)) ∧ I' = I ∧ D' = D) (by decide) (x_m_thrown 0 I D _ ⟨rfl, rfl, rfl⟩) (st_ok3 []) hvd) lz_m42 rfl (by decide) rfl rfl lz_t1 lz_t2 lz_t3 hx hb hml hown hts hl.1 hKN (by decide) (by decide) hc1 hc2 (Nat.le_of_ble_eq_true rfl) hP hS d3 ?_
  rintro r I' D' H1 locs1 ⟨rfl, rfl, rfl⟩ _ hP1 hS1
  refine lv_iload hx hb d6 (lv_at hl 0 rfl) ?_
  refine lv_icmp_eq (x := I' 3 0 0) (tgt := t + 11) hx hb d8 (by omega) (fun _ => ?_) (fun z => absurd h3 z)
  exact lv_goto (tgt := 869) hx hb d30 hoff (kk ls H1 locs1 (lv_sub hl [1, 2, 3, 4, 5] rfl) ⟨hP1, hD, hS1, hvd, hAB, hR⟩)
end
