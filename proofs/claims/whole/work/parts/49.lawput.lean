/-! the law: put and pace -/
set_option maxRecDepth 100000 in
theorem lw1_put : Cond.methodLink RL 57 yL_put ∈ sc_G := sc_inG 141 (by decide +kernel) (by decide +kernel)
set_option maxRecDepth 100000 in
theorem lw2_put : Cond.static yL_put ∈ sc_G := sc_inG 142 (by decide +kernel) (by decide +kernel)
set_option maxRecDepth 100000 in
theorem lw3_put : Cond.codeWith yL_put cL_put 8 (some .int) [(0, 13, 16, 13), (0, 13, 20, 15)] ∈ sc_G := sc_inG 143 rfl rfl
set_option maxRecDepth 100000 in
theorem lm1_put : Cond.methodLink RL 62 (sc_y 45) ∈ sc_G := sc_inG 547 (by decide +kernel) (by decide +kernel)
set_option maxRecDepth 100000 in
theorem lm2_put : Cond.instanceMethod (sc_y 45) ∈ sc_G := sc_inG 548 (by decide +kernel) (by decide +kernel)
set_option maxRecDepth 100000 in
theorem lm3_put : Cond.selects RX3 (sc_y 45) (sc_y 45) ∈ sc_G := sc_inG 549 (by decide +kernel) (by decide +kernel)
set_option maxRecDepth 100000 in
theorem lp1_c : Cond.methodLink RL 103 yX2_pace ∈ sc_G := sc_inG 137 (by decide +kernel) (by decide +kernel)
set_option maxRecDepth 100000 in
theorem lp2_c : Cond.instanceMethod yX2_pace ∈ sc_G := sc_inG 138 (by decide +kernel) (by decide +kernel)
set_option maxRecDepth 100000 in
theorem lp3_c : Cond.selects RX2 yX2_pace yX2_pace ∈ sc_G := sc_inG 139 (by decide +kernel) (by decide +kernel)
set_option maxRecDepth 100000 in
theorem lp4_c : Cond.code yX2_pace cX2_pace 1 (some .float) ∈ sc_G := sc_inG 140 rfl rfl
set_option maxRecDepth 100000 in
theorem lp1_m : Cond.methodLink RL 107 yX3_pace ∈ sc_G := sc_inG 650 (by decide +kernel) (by decide +kernel)
set_option maxRecDepth 100000 in
theorem lp2_m : Cond.instanceMethod yX3_pace ∈ sc_G := sc_inG 651 (by decide +kernel) (by decide +kernel)
set_option maxRecDepth 100000 in
theorem lp3_m : Cond.selects RX3 yX3_pace yX3_pace ∈ sc_G := sc_inG 652 (by decide +kernel) (by decide +kernel)
set_option maxRecDepth 100000 in
theorem lp4_m : Cond.code yX3_pace cX3_pace 3 (some .float) ∈ sc_G := sc_inG 653 rfl rfl
set_option maxRecDepth 100000 in
theorem lp5_m : Cond.initialized RX3 ∈ sc_G := sc_inG 4 (by decide +kernel) (by decide +kernel)
set_option maxRecDepth 100000 in
theorem lm0_put : sc_MO 45 6 := ⟨by decide, ⟨by decide, by decide, by decide +kernel⟩, by decide, sc_inG 550 rfl rfl, sc_inG 4 (by decide +kernel) (by decide +kernel)⟩
theorem st_putx {l : Launch} {dC : Nat → ClassId} {dI : Nat → Nat → Nat} {ad : Nat → Nat} {cA : Nat → ClassId} {LP : List Nat} {o : Nat → Int64} {A : Nat → Prop} {k : Nat → Nat} {I : sc_I} {D : sc_R} {S : sc_I} {N : Nat} (hl : l.stackTraces = false) (hD : ∀ I D, va_D A (sc_w ad cA LP o I D)) (hv : sc_vd LP D) (hA : c_AB I D S) (hR : r_R N S I) (w a1 a2 a3 a4 a5 : Int32) (h : ¬ ((0 ≤ w ∧ w < 64) ∧ m_pok a1 a2 a3 a4 a5)) : ∃ kr, lx_Met l dC dI ad cA LP o A k yL_put cL_put 8 [(0, 13, 16, 13), (0, 13, 20, 15)] [.inr (2, 0), .inl w, .inl a1, .inl a2, .inl a3, .inl a4, .inl a5] I D (st_K0 I S kr) ∧ ∀ I' D', c_AM I I' D' S → sc_wpM 7 45 [.inr (3, 0), .inl w, .inl a1, .inl a2, .inl a3, .inl a4, .inl a5] I' D' (st_Q0 N S kr D') := by
  by_cases h0 : 0 ≤ w ∧ w < 64
  · have h1 : ¬ m_pok a1 a2 a3 a4 a5 := fun z => h ⟨h0, z⟩
    refine ⟨2, lx_putA_x hv (tx_putA hl hD hv h0 h1) ⟨rfl, hA, st_MS I⟩, fun I' D' hq => ?_⟩
    have hR' := r_MS hR hq.2
    exact x_m_put 5 I' D' _ w a1 a2 a3 a4 a5 (fun z => absurd ((st_lt (by decide)).mp h0) z) (fun _ _ => ⟨rfl, rfl, rfl, hq.1.f ((m_F.r I').u3.u3), r_mono (by omega) (r_thr (r_thr hR'))⟩) (fun _ z => absurd z h1)
  · refine ⟨1, lx_putI_x hv (tx_putI hl h0) ⟨rfl, hA, st_MS I⟩, fun I' D' hq => ?_⟩
    have hR' := r_MS hR hq.2
    exact x_m_put 5 I' D' _ w a1 a2 a3 a4 a5 (fun _ => ⟨rfl, rfl, rfl, hq.1.f (m_F.r I').u3, r_mono (by omega) (r_thr hR')⟩) (fun z _ => absurd ((st_lt (by decide)).mpr z) h0) (fun z _ => absurd ((st_lt (by decide)).mpr z) h0)
set_option maxRecDepth 100000 in
set_option maxHeartbeats 4000000 in
/-- behind the wrapper of put -/
theorem lz_put2 {p : Program} {l : Launch} {e : Env} {s : State} {m : MethodId} {args : Array Value} {below : List Frame} {meth : Method} {c : Code} {Qf : State → Prop} {dC : Nat → ClassId} {dI : Nat → Nat → Nat} {ad : Nat → Nat} {cA : Nat → ClassId} {A : Nat → Prop} {k : Nat → Nat} {b L : Nat} {xs : Nat → Int32} {H : Heap} {locs : List Loc} {cells slots i : Nat} {ls : Array Slot} {LP : List Nat} {o : Nat → Int64} {I : sc_I} {D : sc_R} {S : sc_I} {N : Nat} {kr : Int32} (C : lz_C p l s m args c dC dI cA A k b L xs) (hL : L ≤ 3584) (hi : i + 7 ≤ L) (hP : va_P (dC, dI) vwCl (sc_w ad cA LP o I D) H) (hD : va_D A (sc_w ad cA LP o I D)) (hS : va_S A s.heap H locs) (hvd : sc_vd LP D) (hW : sc_wpM 7 45 [.inr (3, 0), .inl (xs (i + 1)), .inl (xs (i + 2)), .inl (xs (i + 3)), .inl (xs (i + 4)), .inl (xs (i + 5)), .inl (xs (i + 6))] I D (st_Q0 N S kr D)) (hl : lv_has ls 9 (lz_lv ad b i)) (hc1 : cells ≤ 636560) (hc2 : slots ≤ 7186423)
    (kk : ∀ (ls : Array Slot) (I : sc_I) (D : sc_R) (H : Heap) (locs : List Loc), lv_has ls 9 (lz_lv ad b i) → lz_I dC dI ad cA A s LP o I D S (N + 300) H locs → W p l e room_1 s m args below meth c H locs cells slots Qf (F0 m 869 ls [])) : W p l e room_1 s m args below meth c H locs cells slots Qf (F0 m 149 ls [.int kr]) := by
  have C' := C
  obtain ⟨⟨hx, hb, hml, hown, hts⟩, ⟨hKN, hZ, hst⟩, -⟩ := C'
  refine lv_istore (lv' := (5, .int kr) :: lz_lv ad b i) hx hb dL_law_149 hl (by decide) rfl (fun ls hl => ?_)
  refine lv_aload_n hx hb dL_law_151 rfl (lv_at hl 3 rfl) ?_
  refine lz_ld C (n := 1) hS (lv_at hl 5 rfl) (lv_at hl 1 rfl) (by omega) hL (by decide) dL_law_152 dL_law_153 dL_law_155 dL_law_156 dL_law_157 ?_
  refine lz_ld C (n := 2) hS (lv_at hl 5 rfl) (lv_at hl 1 rfl) (by omega) hL (by decide) dL_law_158 dL_law_159 dL_law_161 dL_law_162 dL_law_163 ?_
  refine lz_ld C (n := 3) hS (lv_at hl 5 rfl) (lv_at hl 1 rfl) (by omega) hL (by decide) dL_law_164 dL_law_165 dL_law_167 dL_law_168 dL_law_169 ?_
  refine lz_ld C (n := 4) hS (lv_at hl 5 rfl) (lv_at hl 1 rfl) (by omega) hL (by decide) dL_law_170 dL_law_171 dL_law_173 dL_law_174 dL_law_175 ?_
  refine lz_ld C (n := 5) hS (lv_at hl 5 rfl) (lv_at hl 1 rfl) (by omega) hL (by decide) dL_law_176 dL_law_177 dL_law_179 dL_law_180 dL_law_181 ?_
  refine lz_ldb C (n := 6) hS (lv_at hl 5 rfl) (lv_at hl 1 rfl) (by omega) hL (by decide) dL_law_182 dL_law_183 dL_law_185 dL_law_187 dL_law_188 ?_
  refine lx_callV (as := [.inl (xs (i + 1)), .inl (xs (i + 2)), .inl (xs (i + 3)), .inl (xs (i + 4)), .inl (xs (i + 5)), .inl (xs (i + 6))]) (rest := []) (k1 := 3) (i := 0) lz_sub (sc_sound l dC dI ad cA LP o A (sc_D_any hD o) 7 45 _ I D _ (by decide) hW (st_ok3 [xs (i + 1), xs (i + 2), xs (i + 3), xs (i + 4), xs (i + 5), xs (i + 6)]) hvd) lm0_put rfl (by decide) rfl rfl lm1_put lm2_put lm3_put hx hb hml hown hts hl.1 hKN (by decide) (by decide) hc1 hc2 (Nat.le_of_ble_eq_true rfl) hP hS dL_law_189 ?_
  rintro r2 I2 D2 H2 locs2 ⟨rfl, rfl, h3, hAB2, hR2⟩ hvd2 hP2 hS2
  exact lz_tail0 C ⟨hP2, sc_D_any hD _ _ _, hS2, hvd2, hAB2, hR2⟩ h3 hl hc1 hc2 dL_law_192 dL_law_193 dL_law_196 dL_law_198 dL_law_203 (by decide) (fun ls H locs hl hI => kk ls _ _ H locs hl hI)
set_option maxRecDepth 100000 in
set_option maxHeartbeats 4000000 in
theorem lz_put {p : Program} {l : Launch} {e : Env} {s : State} {m : MethodId} {args : Array Value} {below : List Frame} {meth : Method} {c : Code} {Qf : State → Prop} {dC : Nat → ClassId} {dI : Nat → Nat → Nat} {ad : Nat → Nat} {cA : Nat → ClassId} {A : Nat → Prop} {k : Nat → Nat} {b L : Nat} {xs : Nat → Int32} {H : Heap} {locs : List Loc} {cells slots i : Nat} {ls : Array Slot} {LP : List Nat} {o : Nat → Int64} {I : sc_I} {D : sc_R} {S : sc_I} {N : Nat} (C : lz_C p l s m args c dC dI cA A k b L xs) (hL : L ≤ 3584) (hi : i + 7 ≤ L) (hN : N + 300 < 2 ^ 30) (hI : lz_I dC dI ad cA A s LP o I D S N H locs) (hl : lv_has ls 9 (lz_lv ad b i)) (hc1 : cells + 1 ≤ 636560) (hc2 : slots + 6 ≤ 7186423)
    (kk : ∀ (ls : Array Slot) (LP : List Nat) (o : Nat → Int64) (I : sc_I) (D : sc_R) (S : sc_I) (H : Heap) (locs : List Loc), lv_has ls 9 (lz_lv ad b i) → lz_I dC dI ad cA A s LP o I D S (N + 300) H locs → W p l e room_1 s m args below meth c H locs (cells + 1) (slots + 6) Qf (F0 m 869 ls [])) : W p l e room_1 s m args below meth c H locs cells slots Qf (F0 m 108 ls []) := by
  have C' := C
  obtain ⟨⟨hx, hb, hml, hown, hts⟩, ⟨hKN, hZ, hst⟩, hX, hbl, hbA, hA0⟩ := C'
  obtain ⟨hP, hD, hS, hvd, hAB, hR⟩ := hI
  refine lv_aload_n hx hb dL_law_108 rfl (lv_at hl 3 rfl) ?_
  refine lz_ld C (n := 1) hS (lv_at hl 4 rfl) (lv_at hl 0 rfl) (by omega) hL (by decide) dL_law_109 dL_law_110 dL_law_112 dL_law_113 dL_law_114 ?_
  refine lz_ld C (n := 2) hS (lv_at hl 4 rfl) (lv_at hl 0 rfl) (by omega) hL (by decide) dL_law_115 dL_law_116 dL_law_118 dL_law_119 dL_law_120 ?_
  refine lz_ld C (n := 3) hS (lv_at hl 4 rfl) (lv_at hl 0 rfl) (by omega) hL (by decide) dL_law_121 dL_law_122 dL_law_124 dL_law_125 dL_law_126 ?_
  refine lz_ld C (n := 4) hS (lv_at hl 4 rfl) (lv_at hl 0 rfl) (by omega) hL (by decide) dL_law_127 dL_law_128 dL_law_130 dL_law_131 dL_law_132 ?_
  refine lz_ld C (n := 5) hS (lv_at hl 4 rfl) (lv_at hl 0 rfl) (by omega) hL (by decide) dL_law_133 dL_law_134 dL_law_136 dL_law_137 dL_law_138 ?_
  refine lz_ldb C (n := 6) hS (lv_at hl 4 rfl) (lv_at hl 0 rfl) (by omega) hL (by decide) dL_law_139 dL_law_140 dL_law_142 dL_law_144 dL_law_145 ?_
  by_cases h : (0 ≤ xs (i + 1) ∧ xs (i + 1) < 64) ∧ m_pok (xs (i + 2)) (xs (i + 3)) (xs (i + 4)) (xs (i + 5)) (xs (i + 6))
  · have h63 := (st_lt (a := 64) (b := 63) (by decide)).mp h.1
    refine ix_call (vx_runSW (As := ([.inr (2, 0), .inl (xs (i + 1)), .inl (xs (i + 2)), .inl (xs (i + 3)), .inl (xs (i + 4)), .inl (xs (i + 5)), .inl (xs (i + 6))] : List sc_V).map (sc_tv ad)) (rest := []) ⟨hx, hb, hml, hown, hts⟩ (lx_put_r (k := k) (sc_D_any hD o) hvd h.1 h.2) (vx_cwSW 7 hts (lz_good rfl lw1_put lw2_put lw3_put) rfl rfl rfl ⟨by decide, by decide, by decide +kernel⟩ ⟨by decide, by decide⟩) ⟨ix_blind, fun U hU hW => ⟨⟨rfl, sc_KN_warm hW hKN, by rw [hU]; exact hP, hZ.at hS hU hW⟩, fun q hq => hA0 q (Nat.le_trans hS.1 (by rw [← hU]; exact hq))⟩⟩ rfl rfl hl.1 rfl (lv_room (Nat.le_of_ble_eq_true rfl)) dL_law_146 ⟨hc1, hc2⟩) hS ?_
    rintro q H1 locs1 ⟨hqL, hP1, hD1⟩ hS1
    have hAB1 := hAB.put (x := (xs (i + 1)).toNatClampNeg) (g := ix_g (xs (i + 2)) (xs (i + 3)) (xs (i + 4)) (xs (i + 5)) (xs (i + 6))) hvd hqL (r_lt (r_63 h63))
    have hR1 := r_MS hR (ix_MS (q := q) (g := ix_g (xs (i + 2)) (xs (i + 3)) (xs (i + 4)) (xs (i + 5)) (xs (i + 6))))
    refine lz_put2 (N := N) (S := c_put (xs (i + 1)).toNatClampNeg (ix_g (xs (i + 2)) (xs (i + 3)) (xs (i + 4)) (xs (i + 5)) (xs (i + 6))) S) C hL hi hP1 hD1 hS1 (sc_vd_put hvd) ?_ hl hc1 hc2 (fun ls I D H locs hl hI => kk ls _ _ I D _ H locs hl hI)
    exact x_m_put 5 _ _ _ (xs (i + 1)) (xs (i + 2)) (xs (i + 3)) (xs (i + 4)) (xs (i + 5)) (xs (i + 6)) (fun z => absurd h63 z) (fun _ z => absurd h.2 z) (fun _ _ => ⟨rfl, rfl, rfl, hAB1.f ((m_F.r _).u3.t (m_F_pt _ _ _ _ _ _ _)), r_mono (by omega) (r_put (r_thr hR1) h63 h.2 rfl rfl rfl rfl rfl)⟩)
  · obtain ⟨kr, hM, hW⟩ := st_putx (k := k) (dC := dC) (dI := dI) hst (sc_D_any hD o) hvd hAB hR (xs (i + 1)) (xs (i + 2)) (xs (i + 3)) (xs (i + 4)) (xs (i + 5)) (xs (i + 6)) h
    refine lz_wrap C (as := [.inr (2, 0), .inl (xs (i + 1)), .inl (xs (i + 2)), .inl (xs (i + 3)), .inl (xs (i + 4)), .inl (xs (i + 5)), .inl (xs (i + 6))]) (n := 7) hM rfl (by decide +kernel) rfl (by decide) lw1_put lw2_put lw3_put hP hS hl.1 hc1 hc2 dL_law_146 ?_
    rintro r o1 I1 D1 H1 locs1 ⟨hr, hq⟩ hvd1 hP1 hS1
    subst hr
    exact lz_put2 (N := N) (S := S) C hL hi hP1 (sc_D_any hD _ _ _) hS1 hvd1 (hW I1 D1 hq) hl hc1 hc2 (fun ls I D H locs hl hI => kk ls _ _ I D _ H locs hl hI)
theorem px_call {p : Program} {l : Launch} {e : Env} {R : Room} {s : State} {m : MethodId} {args : Array Value} {below : List Frame} {meth : Method} {c : Code} {H : Heap} {locs : List Loc} {cells slots mc ms : Nat} {Qf : State → Prop} {pc : Nat} {ls : Array Slot} {st0 rest : List Value} {dC : Nat → ClassId} {dI : Nat → Nat → Nat} {ad : Nat → Nat} {cA : Nat → ClassId} {LP : List Nat} {o : Nat → Int64} {A : Nat → Prop} {I : sc_I} {D : sc_R} {x : UInt32} {a : Array Value}
    (hr : va_Run p l e R s m args below meth c H locs cells slots mc ms (F0 m pc ls st0) rest (px_Qc dC dI ad cA LP o A x I D a) A) (hS : va_S A s.heap H locs)
    (kk : ∀ (H1 : Heap) (locs1 : List Loc), va_P (dC, dI) vwCl (sc_w ad cA LP o I D) H1 → va_S A s.heap H1 locs1 → W p l e R s m args below meth c H1 locs1 (cells + mc) (slots + ms) Qf (F0 m (pc + 3) ls (.float x :: rest))) : W p l e R s m args below meth c H locs cells slots Qf (F0 m pc ls st0) := by
  intro T hT X
  obtain ⟨v, st₀, t, T', L, h0, X', hL, e1, e2, ⟨hv, hP, hz, hk⟩, st⟩ := hr T hT X
  cases hv
  rw [h0] at hz hk
  obtain ⟨t2, a1, b1⟩ := kk T'.heap (locs ++ L) (by rw [e1]; exact hP)
    ⟨Nat.le_trans hS.1 (by rw [e1]; exact hz), fun q h1 h2 => by rw [e1, hk q (Nat.lt_of_lt_of_le h1 hS.1) h2]; exact hS.2.1 q h1 h2, fun q hq => (List.mem_append.mp hq).elim (hS.2.2 q) (hL q)⟩ T' rfl X'
  exact ⟨t2, st t2 a1, b1⟩
theorem px_good {C : String} {y : MethodName} {cc : ByteArray} {nL idx : Nat} {rt : Option FieldType} (w0 : Cond.initialized C ∈ sc_G) (w1 : Cond.methodLink RL idx y ∈ sc_G) (w2 : Cond.instanceMethod y ∈ sc_G) (w3 : Cond.selects C y y ∈ sc_G) (w5 : Cond.code y cc nL rt ∈ sc_G) : GoodIn lw_tbl (wsV RL idx C y (sc_ws y cc nL rt)) := by
  intro w hw
  rcases List.mem_append.mp hw with hw | hw
  · simp only [List.mem_cons, List.not_mem_nil, or_false] at hw
    rcases hw with rfl | rfl | rfl | rfl
    · exact ⟨lz_sub _ w1, sc_G_good w1⟩
    · exact ⟨lz_sub _ w2, sc_G_good w2⟩
    · exact ⟨lz_sub _ w3, sc_G_good w3⟩
    · exact ⟨lz_sub _ w0, sc_G_good w0⟩
  · rcases List.mem_cons.mp hw with rfl | hw
    · exact ⟨lz_sub _ w5, sc_G_good w5⟩
    · exact ⟨lz_sub _ hw, sc_G_good hw⟩
set_option maxRecDepth 100000 in
set_option maxHeartbeats 4000000 in
theorem lz_pace {p : Program} {l : Launch} {e : Env} {s : State} {m : MethodId} {args : Array Value} {below : List Frame} {meth : Method} {c : Code} {Qf : State → Prop} {dC : Nat → ClassId} {dI : Nat → Nat → Nat} {ad : Nat → Nat} {cA : Nat → ClassId} {A : Nat → Prop} {k : Nat → Nat} {b L : Nat} {xs : Nat → Int32} {H : Heap} {locs : List Loc} {cells slots i : Nat} {ls : Array Slot} {LP : List Nat} {o : Nat → Int64} {I : sc_I} {D : sc_R} {S : sc_I} {N : Nat} (C : lz_C p l s m args c dC dI cA A k b L xs) (hL : L ≤ 3584) (hi : i + 7 ≤ L) (hN : N + 300 < 2 ^ 30) (hI : lz_I dC dI ad cA A s LP o I D S N H locs) (hl : lv_has ls 9 (lz_lv ad b i)) (hc1 : cells + 1 ≤ 636560) (hc2 : slots + 6 ≤ 7186423)
    (kk : ∀ (ls : Array Slot) (LP : List Nat) (o : Nat → Int64) (I : sc_I) (D : sc_R) (S : sc_I) (H : Heap) (locs : List Loc), lv_has ls 9 (lz_lv ad b i) → lz_I dC dI ad cA A s LP o I D S (N + 300) H locs → W p l e room_1 s m args below meth c H locs (cells + 1) (slots + 6) Qf (F0 m 869 ls [])) : W p l e room_1 s m args below meth c H locs cells slots Qf (F0 m 826 ls []) := by
  have C' := C
  obtain ⟨⟨hx, hb, hml, hown, hts⟩, ⟨hKN, hZ, hst⟩, hX, hbl, hbA, hA0⟩ := C'
  obtain ⟨hP, hD, hS, hvd, hAB, hR⟩ := hI
  obtain ⟨q0, he0⟩ := sc_objx (ad := ad) (cA := cA) (LP := LP) (o := o) (I := I) (D := D) (k := 2) (i := 0) (by decide) rfl
  refine lv_aload_n hx hb dL_law_826 rfl (lv_at hl 3 rfl) ?_
  refine px_call (va_runV (As := []) (rest := []) ⟨hx, hb, hml, hown, hts⟩ px_c (cwV 0 hts (px_good lx_i2 lp1_c lp2_c lp3_c lp4_c) rfl rfl rfl ⟨rfl, by decide, by decide, by decide +kernel⟩ ⟨by decide, by decide⟩) ⟨sc_blind, va_recv hKN.1 hP (sc_cl_at (k := 2) (by decide)) he0, fun U hU hW => ⟨rfl, sc_KN_warm hW hKN, by rw [hU]; exact hP⟩⟩ rfl rfl hl.1 rfl (lv_room (Nat.le_of_ble_eq_true rfl)) dL_law_827 ⟨Nat.le_of_lt hc1, by show slots + 0 ≤ 7186423; omega⟩) hS ?_
  intro H1 locs1 hP1 hS1
  have e1 : px_f (I 2 0 12) (I 2 0 13) = px_f (I 3 0 26) (I 3 0 27) := by
    rw [show I 2 0 12 = S 2 0 12 from congrFun hAB.2.2.2.2.2.1 12, show I 2 0 13 = S 2 0 13 from congrFun hAB.2.2.2.2.2.1 13, hR.1.2.2.2.2.2.1, hR.2.2.2.2.2.1]
  rw [e1]
  have hn := px_d (px_nan (I 3 0 26) (I 3 0 27))
  refine lv_f2d hx hb dL_law_830 (px_of64 hn) ?_
  refine lv_dstore (lv' := (5, .double (FP.f2d (px_f (I 3 0 26) (I 3 0 27)))) :: lz_lv ad b i) hx hb dL_law_831 hl (by decide) rfl (fun ls hl => ?_)
  obtain ⟨q1, he1⟩ := sc_objx (ad := ad) (cA := cA) (LP := LP) (o := o) (I := I) (D := D) (k := 3) (i := 0) (by decide) rfl
  refine lv_aload_n hx hb dL_law_833 rfl (lv_at hl 3 rfl) ?_
  refine px_call (va_runV (As := []) (rest := []) ⟨hx, hb, hml, hown, hts⟩ (px_m (sc_D_any hD o)) (cwV 0 hts (px_good lp5_m lp1_m lp2_m lp3_m lp4_m) rfl rfl rfl ⟨rfl, by decide, by decide, by decide +kernel⟩ ⟨by decide, by decide⟩) ⟨sc_blind, va_recv hKN.1 hP1 (sc_cl_at (k := 3) (by decide)) he1, fun U hU hW => ⟨rfl, sc_KN_warm hW hKN, by rw [hU]; exact hP1⟩⟩ rfl rfl hl.1 rfl (lv_room (Nat.le_of_ble_eq_true rfl)) dL_law_834 ⟨Nat.le_of_lt hc1, by show slots + 0 + 0 ≤ 7186423; omega⟩) hS1 ?_
  intro H2 locs2 hP2 hS2
  refine lv_f2d hx hb dL_law_837 (px_of64 hn) ?_
  refine lv_dstore (lv' := (7, .double (FP.f2d (px_f (I 3 0 26) (I 3 0 27)))) :: (5, .double (FP.f2d (px_f (I 3 0 26) (I 3 0 27)))) :: lz_lv ad b i) hx hb dL_law_838 hl (by decide) rfl (fun ls hl => ?_)
  refine lv_dload hx hb dL_law_840 (lv_at hl 1 rfl) ?_
  refine lv_dload hx hb dL_law_842 (lv_at hl 0 rfl) ?_
  refine lv_dcmp hx hb dL_law_844 ?_
  rw [px_eq hn]
  refine lv_if_eq (tgt := 866) hx hb dL_law_845 (by decide) (fun _ => ?_) (fun z => absurd rfl z)
  refine lv_goto (tgt := 869) hx hb dL_law_866 (by decide) ?_
  refine W.widen (k := cells + 1) (n := slots + 6) (by omega) (by omega) ?_
  exact kk ls LP o _ D S H2 locs2 (lv_sub hl [2, 3, 4, 5, 6] rfl) ⟨hP2, sc_D_any hD _ _ _, hS2, hvd, hAB.f (m_F.r I).u3, r_mono (by omega) (r_thr hR)⟩
