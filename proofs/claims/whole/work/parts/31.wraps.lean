theorem lx_ty26 {cA : Nat → ClassId} : (sc_tys cA)[26]? = some (cA 26, .long) := by
  rw [sc_tys, sc_tab_get (by decide)]
  rfl
theorem lx_sub {y : MethodName} {cc : ByteArray} {nL : Nat} {hh : List (Nat × Nat × Nat × Nat)} : ∀ w ∈ sc_G, w ∈ lx_ws y cc nL hh := fun _ h => List.mem_cons_of_mem _ h
theorem lx_c13 : Cond.classLink RL 13 tx_I ∈ sc_G := sc_inG 144 (by decide +kernel) (by decide +kernel)
theorem lx_c15 : Cond.classLink RL 15 tx_A ∈ sc_G := sc_inG 145 (by decide +kernel) (by decide +kernel)
theorem lx_i2 : Cond.initialized RX2 ∈ sc_G := sc_inG 1 (by decide +kernel) (by decide +kernel)
theorem lx_v0 : vp_in (0 : Int32) 1 := by unfold vp_in; decide
set_option maxRecDepth 100000 in
theorem lmo_10 : sc_MO 10 2 := ⟨by decide, ⟨by decide, by decide, by decide +kernel⟩, by decide, sc_inG 245 rfl rfl, sc_inG 1 (by decide +kernel) (by decide +kernel)⟩
set_option maxRecDepth 100000 in
theorem lkM_10 : Cond.methodLink "StageChipLaw" 17 ⟨"StageChip", "poke", "(II)I"⟩ ∈ sc_G := sc_inG 242 (by decide +kernel) (by decide +kernel)
set_option maxRecDepth 100000 in
theorem lkI_10 : Cond.instanceMethod ⟨"StageChip", "poke", "(II)I"⟩ ∈ sc_G := sc_inG 243 (by decide +kernel) (by decide +kernel)
set_option maxRecDepth 100000 in
theorem lkS_10 : Cond.selects "StageChip" ⟨"StageChip", "poke", "(II)I"⟩ ⟨"StageChip", "poke", "(II)I"⟩ ∈ sc_G := sc_inG 244 (by decide +kernel) (by decide +kernel)
set_option maxRecDepth 100000 in
theorem lx_poke_r {l : Launch} {dC : Nat → ClassId} {dI : Nat → Nat → Nat} {ad : Nat → Nat} {cA : Nat → ClassId} {LP : List Nat} {o : Nat → Int64} {A : Nat → Prop} {k : Nat → Nat} {I : sc_I} {D : sc_R} {K : sc_RT} {Kw : lx_KT} (hD : ∀ I D, va_D A (sc_w ad cA LP o I D)) {d : Nat} (hd : d ≤ 7) {w v : Int32} (hM : sc_Met l d dC dI ad cA LP o A 10 [.inr (2, 0), .inl w, .inl v] I D K) (hK : ∀ r I' D', K r I' D' → ∃ b, r = some (.inl b) ∧ Kw 0 (vp_updL o 0 b.toInt64) I' D') : lx_Met l dC dI ad cA LP o A k yL_poke cL_poke 5 [(0, 10, 13, 13)] [.inr (2, 0), .inl w, .inl v, .inr (8, 0)] I D Kw := by
  refine lx_pub (by decide) (Nat.le_of_ble_eq_true rfl) ?_
  intro p e s m args below meth c ls hx hb hr hml hown hts hlk htb hK0 hP hZ hls
  refine lv_aload_n hx hb dL_poke_0 rfl (lv_at hls 3 rfl) ?_
  refine lv_iconst hx hb dL_poke_1 rfl ?_
  refine lv_aload_n hx hb dL_poke_2 rfl (lv_at hls 0 rfl) ?_
  refine lv_iload_n hx hb dL_poke_3 rfl (lv_at hls 1 rfl) ?_
  refine lv_iload_n hx hb dL_poke_4 rfl (lv_at hls 2 rfl) ?_
  refine lx_callV (as := [.inl w, .inl v]) (rest := [.int 0, .ref (ad 10)]) lx_sub hM lmo_10 rfl (by decide) rfl rfl lkM_10 lkI_10 lkS_10 hx hb hml hown hts hls.1 hK0 (by show d + 1 ≤ 8; omega) (by show 30 * (d + 1) ≤ 240; omega) (by decide) (by decide) (Nat.le_of_ble_eq_true rfl) hP va_S.rf dL_poke_5 ?_
  intro r I' D' H1 locs1 hq hvd hP1 hS1
  obtain ⟨b, rfl, hw⟩ := hK r I' D' hq
  refine lv_i2l hx hb dL_poke_8 rfl ?_
  refine va_last hx hb hK0.1 hP1 (hD I' D') hS1 10 26 lx_w_out lx_ty26 lx_v0 dL_poke_9 ?_
  intro H2 locs2 hP2 _ hS2
  rw [lx_w_outset] at hP2
  refine lv_goto hx hb dL_poke_10 (tgt := 17) (by decide) ?_
  refine lv_iconst hx hb dL_poke_17 rfl ?_
  refine W.widen (k := 1) (n := 6) (by decide) (by decide) ?_
  exact W.iret hx hb hr (fun t ht hW => ⟨0, _, I', D', rfl, hw, hvd, by rw [ht]; exact hP2, hS2.F ht⟩) hS2.2.2 dL_poke_18 hlk
set_option maxRecDepth 100000 in
theorem lx_poke_x {l : Launch} {dC : Nat → ClassId} {dI : Nat → Nat → Nat} {ad : Nat → Nat} {cA : Nat → ClassId} {LP : List Nat} {o : Nat → Int64} {A : Nat → Prop} {k : Nat → Nat} {I : sc_I} {D : sc_R} {Kw : lx_KT} (hv : sc_vd LP D) {w v : Int32} (hM : tx_Met l 1 dC dI ad cA LP o A k 10 [.inr (2, 0), .inl w, .inl v] I D tx_I) (hK : Kw 1 o I D) : lx_Met l dC dI ad cA LP o A k yL_poke cL_poke 5 [(0, 10, 13, 13)] [.inr (2, 0), .inl w, .inl v, .inr (8, 0)] I D Kw := by
  refine lx_pub (by decide) (Nat.le_of_ble_eq_true rfl) ?_
  intro p e s m args below meth c ls hx hb hr hml hown hts hlk htb hK0 hP hZ hls
  refine lv_aload_n hx hb dL_poke_0 rfl (lv_at hls 3 rfl) ?_
  refine lv_iconst hx hb dL_poke_1 rfl ?_
  refine lv_aload_n hx hb dL_poke_2 rfl (lv_at hls 0 rfl) ?_
  refine lv_iload_n hx hb dL_poke_3 rfl (lv_at hls 1 rfl) ?_
  refine lv_iload_n hx hb dL_poke_4 rfl (lv_at hls 2 rfl) ?_
  refine lx_callX (as := [.inl w, .inl v]) (rest := [.int 0, .ref (ad 10)]) (y := sc_y 10) (cy := sc_c 10) (ny := sc_nL 10) (ry := sc_rt 10) lx_sub hM ⟨rfl, lmo_10.2.1⟩ lmo_10.2.2.1 rfl lkM_10 lkI_10 lkS_10 lx_i2 lmo_10.2.2.2.1 hx hb hml hown hts hls.1 hK0 hZ (by decide) (by decide) (by decide) (by decide) (Nat.le_of_ble_eq_true rfl) hP va_S.rf dL_poke_5 [] _ [] htb (fun z hz => by cases hz) rfl (by decide) lx_c13 (by decide +kernel) ?_
  intro q H1 locs1 hP1 hS1
  refine lv_astore hx hb dL_poke_13 hls (by decide) rfl ?_
  intro ls' _
  refine lv_iconst hx hb dL_poke_15 rfl ?_
  exact W.iret hx hb hr (fun t ht hW => ⟨1, o, I, D, rfl, hK, hv, by rw [ht]; exact hP1, hS1.F ht⟩) hS1.2.2 dL_poke_16 hlk
set_option maxRecDepth 100000 in
theorem lmo_11 : sc_MO 11 1 := ⟨by decide, ⟨by decide, by decide, by decide +kernel⟩, by decide, sc_inG 252 rfl rfl, sc_inG 1 (by decide +kernel) (by decide +kernel)⟩
set_option maxRecDepth 100000 in
theorem lkM_11 : Cond.methodLink "StageChipLaw" 21 ⟨"StageChip", "peek", "(I)I"⟩ ∈ sc_G := sc_inG 249 (by decide +kernel) (by decide +kernel)
set_option maxRecDepth 100000 in
theorem lkI_11 : Cond.instanceMethod ⟨"StageChip", "peek", "(I)I"⟩ ∈ sc_G := sc_inG 250 (by decide +kernel) (by decide +kernel)
set_option maxRecDepth 100000 in
theorem lkS_11 : Cond.selects "StageChip" ⟨"StageChip", "peek", "(I)I"⟩ ⟨"StageChip", "peek", "(I)I"⟩ ∈ sc_G := sc_inG 251 (by decide +kernel) (by decide +kernel)
set_option maxRecDepth 100000 in
theorem lx_peek_r {l : Launch} {dC : Nat → ClassId} {dI : Nat → Nat → Nat} {ad : Nat → Nat} {cA : Nat → ClassId} {LP : List Nat} {o : Nat → Int64} {A : Nat → Prop} {k : Nat → Nat} {I : sc_I} {D : sc_R} {K : sc_RT} {Kw : lx_KT} (hD : ∀ I D, va_D A (sc_w ad cA LP o I D)) {d : Nat} (hd : d ≤ 7) {w : Int32} (hM : sc_Met l d dC dI ad cA LP o A 11 [.inr (2, 0), .inl w] I D K) (hK : ∀ r I' D', K r I' D' → ∃ b, r = some (.inl b) ∧ Kw 0 (vp_updL o 0 b.toInt64) I' D') : lx_Met l dC dI ad cA LP o A k yL_peek cL_peek 4 [(0, 9, 12, 13)] [.inr (2, 0), .inl w, .inr (8, 0)] I D Kw := by
  refine lx_pub (by decide) (Nat.le_of_ble_eq_true rfl) ?_
  intro p e s m args below meth c ls hx hb hr hml hown hts hlk htb hK0 hP hZ hls
  refine lv_aload_n hx hb dL_peek_0 rfl (lv_at hls 2 rfl) ?_
  refine lv_iconst hx hb dL_peek_1 rfl ?_
  refine lv_aload_n hx hb dL_peek_2 rfl (lv_at hls 0 rfl) ?_
  refine lv_iload_n hx hb dL_peek_3 rfl (lv_at hls 1 rfl) ?_
  refine lx_callV (as := [.inl w]) (rest := [.int 0, .ref (ad 10)]) lx_sub hM lmo_11 rfl (by decide) rfl rfl lkM_11 lkI_11 lkS_11 hx hb hml hown hts hls.1 hK0 (by show d + 1 ≤ 8; omega) (by show 30 * (d + 1) ≤ 240; omega) (by decide) (by decide) (Nat.le_of_ble_eq_true rfl) hP va_S.rf dL_peek_4 ?_
  intro r I' D' H1 locs1 hq hvd hP1 hS1
  obtain ⟨b, rfl, hw⟩ := hK r I' D' hq
  refine lv_i2l hx hb dL_peek_7 rfl ?_
  refine va_last hx hb hK0.1 hP1 (hD I' D') hS1 10 26 lx_w_out lx_ty26 lx_v0 dL_peek_8 ?_
  intro H2 locs2 hP2 _ hS2
  rw [lx_w_outset] at hP2
  refine lv_goto hx hb dL_peek_9 (tgt := 15) (by decide) ?_
  refine lv_iconst hx hb dL_peek_15 rfl ?_
  refine W.widen (k := 1) (n := 6) (by decide) (by decide) ?_
  exact W.iret hx hb hr (fun t ht hW => ⟨0, _, I', D', rfl, hw, hvd, by rw [ht]; exact hP2, hS2.F ht⟩) hS2.2.2 dL_peek_16 hlk
set_option maxRecDepth 100000 in
theorem lx_peek_x {l : Launch} {dC : Nat → ClassId} {dI : Nat → Nat → Nat} {ad : Nat → Nat} {cA : Nat → ClassId} {LP : List Nat} {o : Nat → Int64} {A : Nat → Prop} {k : Nat → Nat} {I : sc_I} {D : sc_R} {Kw : lx_KT} (hv : sc_vd LP D) {w : Int32} (hM : tx_Met l 1 dC dI ad cA LP o A k 11 [.inr (2, 0), .inl w] I D tx_I) (hK : Kw 1 o I D) : lx_Met l dC dI ad cA LP o A k yL_peek cL_peek 4 [(0, 9, 12, 13)] [.inr (2, 0), .inl w, .inr (8, 0)] I D Kw := by
  refine lx_pub (by decide) (Nat.le_of_ble_eq_true rfl) ?_
  intro p e s m args below meth c ls hx hb hr hml hown hts hlk htb hK0 hP hZ hls
  refine lv_aload_n hx hb dL_peek_0 rfl (lv_at hls 2 rfl) ?_
  refine lv_iconst hx hb dL_peek_1 rfl ?_
  refine lv_aload_n hx hb dL_peek_2 rfl (lv_at hls 0 rfl) ?_
  refine lv_iload_n hx hb dL_peek_3 rfl (lv_at hls 1 rfl) ?_
  refine lx_callX (as := [.inl w]) (rest := [.int 0, .ref (ad 10)]) (y := sc_y 11) (cy := sc_c 11) (ny := sc_nL 11) (ry := sc_rt 11) lx_sub hM ⟨rfl, lmo_11.2.1⟩ lmo_11.2.2.1 rfl lkM_11 lkI_11 lkS_11 lx_i2 lmo_11.2.2.2.1 hx hb hml hown hts hls.1 hK0 hZ (by decide) (by decide) (by decide) (by decide) (Nat.le_of_ble_eq_true rfl) hP va_S.rf dL_peek_4 [] _ [] htb (fun z hz => by cases hz) rfl (by decide) lx_c13 (by decide +kernel) ?_
  intro q H1 locs1 hP1 hS1
  refine lv_astore_n hx hb dL_peek_12 rfl hls (by decide) rfl ?_
  intro ls' _
  refine lv_iconst hx hb dL_peek_13 rfl ?_
  exact W.iret hx hb hr (fun t ht hW => ⟨1, o, I, D, rfl, hK, hv, by rw [ht]; exact hP1, hS1.F ht⟩) hS1.2.2 dL_peek_14 hlk
set_option maxRecDepth 100000 in
theorem lmo_12 : sc_MO 12 2 := ⟨by decide, ⟨by decide, by decide, by decide +kernel⟩, by decide, sc_inG 259 rfl rfl, sc_inG 1 (by decide +kernel) (by decide +kernel)⟩
set_option maxRecDepth 100000 in
theorem lkM_12 : Cond.methodLink "StageChipLaw" 25 ⟨"StageChip", "set", "(II)I"⟩ ∈ sc_G := sc_inG 256 (by decide +kernel) (by decide +kernel)
set_option maxRecDepth 100000 in
theorem lkI_12 : Cond.instanceMethod ⟨"StageChip", "set", "(II)I"⟩ ∈ sc_G := sc_inG 257 (by decide +kernel) (by decide +kernel)
set_option maxRecDepth 100000 in
theorem lkS_12 : Cond.selects "StageChip" ⟨"StageChip", "set", "(II)I"⟩ ⟨"StageChip", "set", "(II)I"⟩ ∈ sc_G := sc_inG 258 (by decide +kernel) (by decide +kernel)
set_option maxRecDepth 100000 in
theorem lx_set_r {l : Launch} {dC : Nat → ClassId} {dI : Nat → Nat → Nat} {ad : Nat → Nat} {cA : Nat → ClassId} {LP : List Nat} {o : Nat → Int64} {A : Nat → Prop} {k : Nat → Nat} {I : sc_I} {D : sc_R} {K : sc_RT} {Kw : lx_KT} (hD : ∀ I D, va_D A (sc_w ad cA LP o I D)) {d : Nat} (hd : d ≤ 7) {w v : Int32} (hM : sc_Met l d dC dI ad cA LP o A 12 [.inr (2, 0), .inl w, .inl v] I D K) (hK : ∀ r I' D', K r I' D' → ∃ b, r = some (.inl b) ∧ Kw 0 (vp_updL o 0 b.toInt64) I' D') : lx_Met l dC dI ad cA LP o A k yL_set cL_set 5 [(0, 10, 13, 13)] [.inr (2, 0), .inl w, .inl v, .inr (8, 0)] I D Kw := by
  refine lx_pub (by decide) (Nat.le_of_ble_eq_true rfl) ?_
  intro p e s m args below meth c ls hx hb hr hml hown hts hlk htb hK0 hP hZ hls
  refine lv_aload_n hx hb dL_set_0 rfl (lv_at hls 3 rfl) ?_
  refine lv_iconst hx hb dL_set_1 rfl ?_
  refine lv_aload_n hx hb dL_set_2 rfl (lv_at hls 0 rfl) ?_
  refine lv_iload_n hx hb dL_set_3 rfl (lv_at hls 1 rfl) ?_
  refine lv_iload_n hx hb dL_set_4 rfl (lv_at hls 2 rfl) ?_
  refine lx_callV (as := [.inl w, .inl v]) (rest := [.int 0, .ref (ad 10)]) lx_sub hM lmo_12 rfl (by decide) rfl rfl lkM_12 lkI_12 lkS_12 hx hb hml hown hts hls.1 hK0 (by show d + 1 ≤ 8; omega) (by show 30 * (d + 1) ≤ 240; omega) (by decide) (by decide) (Nat.le_of_ble_eq_true rfl) hP va_S.rf dL_set_5 ?_
  intro r I' D' H1 locs1 hq hvd hP1 hS1
  obtain ⟨b, rfl, hw⟩ := hK r I' D' hq
  refine lv_i2l hx hb dL_set_8 rfl ?_
  refine va_last hx hb hK0.1 hP1 (hD I' D') hS1 10 26 lx_w_out lx_ty26 lx_v0 dL_set_9 ?_
  intro H2 locs2 hP2 _ hS2
  rw [lx_w_outset] at hP2
  refine lv_goto hx hb dL_set_10 (tgt := 17) (by decide) ?_
  refine lv_iconst hx hb dL_set_17 rfl ?_
  refine W.widen (k := 1) (n := 6) (by decide) (by decide) ?_
  exact W.iret hx hb hr (fun t ht hW => ⟨0, _, I', D', rfl, hw, hvd, by rw [ht]; exact hP2, hS2.F ht⟩) hS2.2.2 dL_set_18 hlk
set_option maxRecDepth 100000 in
theorem lx_set_x {l : Launch} {dC : Nat → ClassId} {dI : Nat → Nat → Nat} {ad : Nat → Nat} {cA : Nat → ClassId} {LP : List Nat} {o : Nat → Int64} {A : Nat → Prop} {k : Nat → Nat} {I : sc_I} {D : sc_R} {Kw : lx_KT} (hv : sc_vd LP D) {w v : Int32} (hM : tx_Met l 1 dC dI ad cA LP o A k 12 [.inr (2, 0), .inl w, .inl v] I D tx_I) (hK : Kw 1 o I D) : lx_Met l dC dI ad cA LP o A k yL_set cL_set 5 [(0, 10, 13, 13)] [.inr (2, 0), .inl w, .inl v, .inr (8, 0)] I D Kw := by
  refine lx_pub (by decide) (Nat.le_of_ble_eq_true rfl) ?_
  intro p e s m args below meth c ls hx hb hr hml hown hts hlk htb hK0 hP hZ hls
  refine lv_aload_n hx hb dL_set_0 rfl (lv_at hls 3 rfl) ?_
  refine lv_iconst hx hb dL_set_1 rfl ?_
  refine lv_aload_n hx hb dL_set_2 rfl (lv_at hls 0 rfl) ?_
  refine lv_iload_n hx hb dL_set_3 rfl (lv_at hls 1 rfl) ?_
  refine lv_iload_n hx hb dL_set_4 rfl (lv_at hls 2 rfl) ?_
  refine lx_callX (as := [.inl w, .inl v]) (rest := [.int 0, .ref (ad 10)]) (y := sc_y 12) (cy := sc_c 12) (ny := sc_nL 12) (ry := sc_rt 12) lx_sub hM ⟨rfl, lmo_12.2.1⟩ lmo_12.2.2.1 rfl lkM_12 lkI_12 lkS_12 lx_i2 lmo_12.2.2.2.1 hx hb hml hown hts hls.1 hK0 hZ (by decide) (by decide) (by decide) (by decide) (Nat.le_of_ble_eq_true rfl) hP va_S.rf dL_set_5 [] _ [] htb (fun z hz => by cases hz) rfl (by decide) lx_c13 (by decide +kernel) ?_
  intro q H1 locs1 hP1 hS1
  refine lv_astore hx hb dL_set_13 hls (by decide) rfl ?_
  intro ls' _
  refine lv_iconst hx hb dL_set_15 rfl ?_
  exact W.iret hx hb hr (fun t ht hW => ⟨1, o, I, D, rfl, hK, hv, by rw [ht]; exact hP1, hS1.F ht⟩) hS1.2.2 dL_set_16 hlk
set_option maxRecDepth 100000 in
theorem lmo_13 : sc_MO 13 1 := ⟨by decide, ⟨by decide, by decide, by decide +kernel⟩, by decide, sc_inG 267 rfl rfl, sc_inG 1 (by decide +kernel) (by decide +kernel)⟩
set_option maxRecDepth 100000 in
theorem lkM_13 : Cond.methodLink "StageChipLaw" 28 ⟨"StageChip", "register", "(I)I"⟩ ∈ sc_G := sc_inG 264 (by decide +kernel) (by decide +kernel)
set_option maxRecDepth 100000 in
theorem lkI_13 : Cond.instanceMethod ⟨"StageChip", "register", "(I)I"⟩ ∈ sc_G := sc_inG 265 (by decide +kernel) (by decide +kernel)
set_option maxRecDepth 100000 in
theorem lkS_13 : Cond.selects "StageChip" ⟨"StageChip", "register", "(I)I"⟩ ⟨"StageChip", "register", "(I)I"⟩ ∈ sc_G := sc_inG 266 (by decide +kernel) (by decide +kernel)
set_option maxRecDepth 100000 in
theorem lx_register_r {l : Launch} {dC : Nat → ClassId} {dI : Nat → Nat → Nat} {ad : Nat → Nat} {cA : Nat → ClassId} {LP : List Nat} {o : Nat → Int64} {A : Nat → Prop} {k : Nat → Nat} {I : sc_I} {D : sc_R} {K : sc_RT} {Kw : lx_KT} (hD : ∀ I D, va_D A (sc_w ad cA LP o I D)) {d : Nat} (hd : d ≤ 7) {w : Int32} (hM : sc_Met l d dC dI ad cA LP o A 13 [.inr (2, 0), .inl w] I D K) (hK : ∀ r I' D', K r I' D' → ∃ b, r = some (.inl b) ∧ Kw 0 (vp_updL o 0 b.toInt64) I' D') : lx_Met l dC dI ad cA LP o A k yL_register cL_register 4 [(0, 9, 12, 13)] [.inr (2, 0), .inl w, .inr (8, 0)] I D Kw := by
  refine lx_pub (by decide) (Nat.le_of_ble_eq_true rfl) ?_
  intro p e s m args below meth c ls hx hb hr hml hown hts hlk htb hK0 hP hZ hls
  refine lv_aload_n hx hb dL_register_0 rfl (lv_at hls 2 rfl) ?_
  refine lv_iconst hx hb dL_register_1 rfl ?_
  refine lv_aload_n hx hb dL_register_2 rfl (lv_at hls 0 rfl) ?_
  refine lv_iload_n hx hb dL_register_3 rfl (lv_at hls 1 rfl) ?_
  refine lx_callV (as := [.inl w]) (rest := [.int 0, .ref (ad 10)]) lx_sub hM lmo_13 rfl (by decide) rfl rfl lkM_13 lkI_13 lkS_13 hx hb hml hown hts hls.1 hK0 (by show d + 1 ≤ 8; omega) (by show 30 * (d + 1) ≤ 240; omega) (by decide) (by decide) (Nat.le_of_ble_eq_true rfl) hP va_S.rf dL_register_4 ?_
  intro r I' D' H1 locs1 hq hvd hP1 hS1
  obtain ⟨b, rfl, hw⟩ := hK r I' D' hq
  refine lv_i2l hx hb dL_register_7 rfl ?_
  refine va_last hx hb hK0.1 hP1 (hD I' D') hS1 10 26 lx_w_out lx_ty26 lx_v0 dL_register_8 ?_
  intro H2 locs2 hP2 _ hS2
  rw [lx_w_outset] at hP2
  refine lv_goto hx hb dL_register_9 (tgt := 15) (by decide) ?_
  refine lv_iconst hx hb dL_register_15 rfl ?_
  refine W.widen (k := 1) (n := 6) (by decide) (by decide) ?_
  exact W.iret hx hb hr (fun t ht hW => ⟨0, _, I', D', rfl, hw, hvd, by rw [ht]; exact hP2, hS2.F ht⟩) hS2.2.2 dL_register_16 hlk
set_option maxRecDepth 100000 in
theorem lx_register_x {l : Launch} {dC : Nat → ClassId} {dI : Nat → Nat → Nat} {ad : Nat → Nat} {cA : Nat → ClassId} {LP : List Nat} {o : Nat → Int64} {A : Nat → Prop} {k : Nat → Nat} {I : sc_I} {D : sc_R} {Kw : lx_KT} (hv : sc_vd LP D) {w : Int32} (hM : tx_Met l 1 dC dI ad cA LP o A k 13 [.inr (2, 0), .inl w] I D tx_I) (hK : Kw 1 o I D) : lx_Met l dC dI ad cA LP o A k yL_register cL_register 4 [(0, 9, 12, 13)] [.inr (2, 0), .inl w, .inr (8, 0)] I D Kw := by
  refine lx_pub (by decide) (Nat.le_of_ble_eq_true rfl) ?_
  intro p e s m args below meth c ls hx hb hr hml hown hts hlk htb hK0 hP hZ hls
  refine lv_aload_n hx hb dL_register_0 rfl (lv_at hls 2 rfl) ?_
  refine lv_iconst hx hb dL_register_1 rfl ?_
  refine lv_aload_n hx hb dL_register_2 rfl (lv_at hls 0 rfl) ?_
  refine lv_iload_n hx hb dL_register_3 rfl (lv_at hls 1 rfl) ?_
  refine lx_callX (as := [.inl w]) (rest := [.int 0, .ref (ad 10)]) (y := sc_y 13) (cy := sc_c 13) (ny := sc_nL 13) (ry := sc_rt 13) lx_sub hM ⟨rfl, lmo_13.2.1⟩ lmo_13.2.2.1 rfl lkM_13 lkI_13 lkS_13 lx_i2 lmo_13.2.2.2.1 hx hb hml hown hts hls.1 hK0 hZ (by decide) (by decide) (by decide) (by decide) (Nat.le_of_ble_eq_true rfl) hP va_S.rf dL_register_4 [] _ [] htb (fun z hz => by cases hz) rfl (by decide) lx_c13 (by decide +kernel) ?_
  intro q H1 locs1 hP1 hS1
  refine lv_astore_n hx hb dL_register_12 rfl hls (by decide) rfl ?_
  intro ls' _
  refine lv_iconst hx hb dL_register_13 rfl ?_
  exact W.iret hx hb hr (fun t ht hW => ⟨1, o, I, D, rfl, hK, hv, by rw [ht]; exact hP1, hS1.F ht⟩) hS1.2.2 dL_register_14 hlk
set_option maxRecDepth 100000 in
theorem lmo_16 : sc_MO 16 1 := ⟨by decide, ⟨by decide, by decide, by decide +kernel⟩, by decide, sc_inG 285 rfl rfl, sc_inG 1 (by decide +kernel) (by decide +kernel)⟩
set_option maxRecDepth 100000 in
theorem lkM_16 : Cond.methodLink "StageChipLaw" 35 ⟨"StageChip", "handler", "(I)I"⟩ ∈ sc_G := sc_inG 282 (by decide +kernel) (by decide +kernel)
set_option maxRecDepth 100000 in
theorem lkI_16 : Cond.instanceMethod ⟨"StageChip", "handler", "(I)I"⟩ ∈ sc_G := sc_inG 283 (by decide +kernel) (by decide +kernel)
set_option maxRecDepth 100000 in
theorem lkS_16 : Cond.selects "StageChip" ⟨"StageChip", "handler", "(I)I"⟩ ⟨"StageChip", "handler", "(I)I"⟩ ∈ sc_G := sc_inG 284 (by decide +kernel) (by decide +kernel)
set_option maxRecDepth 100000 in
theorem lx_handler_r {l : Launch} {dC : Nat → ClassId} {dI : Nat → Nat → Nat} {ad : Nat → Nat} {cA : Nat → ClassId} {LP : List Nat} {o : Nat → Int64} {A : Nat → Prop} {k : Nat → Nat} {I : sc_I} {D : sc_R} {K : sc_RT} {Kw : lx_KT} (hD : ∀ I D, va_D A (sc_w ad cA LP o I D)) {d : Nat} (hd : d ≤ 7) {w : Int32} (hM : sc_Met l d dC dI ad cA LP o A 16 [.inr (2, 0), .inl w] I D K) (hK : ∀ r I' D', K r I' D' → ∃ b, r = some (.inl b) ∧ Kw 0 (vp_updL o 0 b.toInt64) I' D') : lx_Met l dC dI ad cA LP o A k yL_handler cL_handler 4 [(0, 9, 12, 13)] [.inr (2, 0), .inl w, .inr (8, 0)] I D Kw := by
  refine lx_pub (by decide) (Nat.le_of_ble_eq_true rfl) ?_
  intro p e s m args below meth c ls hx hb hr hml hown hts hlk htb hK0 hP hZ hls
  refine lv_aload_n hx hb dL_handler_0 rfl (lv_at hls 2 rfl) ?_
  refine lv_iconst hx hb dL_handler_1 rfl ?_
  refine lv_aload_n hx hb dL_handler_2 rfl (lv_at hls 0 rfl) ?_
  refine lv_iload_n hx hb dL_handler_3 rfl (lv_at hls 1 rfl) ?_
  refine lx_callV (as := [.inl w]) (rest := [.int 0, .ref (ad 10)]) lx_sub hM lmo_16 rfl (by decide) rfl rfl lkM_16 lkI_16 lkS_16 hx hb hml hown hts hls.1 hK0 (by show d + 1 ≤ 8; omega) (by show 30 * (d + 1) ≤ 240; omega) (by decide) (by decide) (Nat.le_of_ble_eq_true rfl) hP va_S.rf dL_handler_4 ?_
  intro r I' D' H1 locs1 hq hvd hP1 hS1
  obtain ⟨b, rfl, hw⟩ := hK r I' D' hq
  refine lv_i2l hx hb dL_handler_7 rfl ?_
  refine va_last hx hb hK0.1 hP1 (hD I' D') hS1 10 26 lx_w_out lx_ty26 lx_v0 dL_handler_8 ?_
  intro H2 locs2 hP2 _ hS2
  rw [lx_w_outset] at hP2
  refine lv_goto hx hb dL_handler_9 (tgt := 15) (by decide) ?_
  refine lv_iconst hx hb dL_handler_15 rfl ?_
  refine W.widen (k := 1) (n := 6) (by decide) (by decide) ?_
  exact W.iret hx hb hr (fun t ht hW => ⟨0, _, I', D', rfl, hw, hvd, by rw [ht]; exact hP2, hS2.F ht⟩) hS2.2.2 dL_handler_16 hlk
set_option maxRecDepth 100000 in
theorem lx_handler_x {l : Launch} {dC : Nat → ClassId} {dI : Nat → Nat → Nat} {ad : Nat → Nat} {cA : Nat → ClassId} {LP : List Nat} {o : Nat → Int64} {A : Nat → Prop} {k : Nat → Nat} {I : sc_I} {D : sc_R} {Kw : lx_KT} (hv : sc_vd LP D) {w : Int32} (hM : tx_Met l 1 dC dI ad cA LP o A k 16 [.inr (2, 0), .inl w] I D tx_I) (hK : Kw 1 o I D) : lx_Met l dC dI ad cA LP o A k yL_handler cL_handler 4 [(0, 9, 12, 13)] [.inr (2, 0), .inl w, .inr (8, 0)] I D Kw := by
  refine lx_pub (by decide) (Nat.le_of_ble_eq_true rfl) ?_
  intro p e s m args below meth c ls hx hb hr hml hown hts hlk htb hK0 hP hZ hls
  refine lv_aload_n hx hb dL_handler_0 rfl (lv_at hls 2 rfl) ?_
  refine lv_iconst hx hb dL_handler_1 rfl ?_
  refine lv_aload_n hx hb dL_handler_2 rfl (lv_at hls 0 rfl) ?_
  refine lv_iload_n hx hb dL_handler_3 rfl (lv_at hls 1 rfl) ?_
  refine lx_callX (as := [.inl w]) (rest := [.int 0, .ref (ad 10)]) (y := sc_y 16) (cy := sc_c 16) (ny := sc_nL 16) (ry := sc_rt 16) lx_sub hM ⟨rfl, lmo_16.2.1⟩ lmo_16.2.2.1 rfl lkM_16 lkI_16 lkS_16 lx_i2 lmo_16.2.2.2.1 hx hb hml hown hts hls.1 hK0 hZ (by decide) (by decide) (by decide) (by decide) (Nat.le_of_ble_eq_true rfl) hP va_S.rf dL_handler_4 [] _ [] htb (fun z hz => by cases hz) rfl (by decide) lx_c13 (by decide +kernel) ?_
  intro q H1 locs1 hP1 hS1
  refine lv_astore_n hx hb dL_handler_12 rfl hls (by decide) rfl ?_
  intro ls' _
  refine lv_iconst hx hb dL_handler_13 rfl ?_
  exact W.iret hx hb hr (fun t ht hW => ⟨1, o, I, D, rfl, hK, hv, by rw [ht]; exact hP1, hS1.F ht⟩) hS1.2.2 dL_handler_14 hlk
set_option maxRecDepth 100000 in
theorem lmo_37 : sc_MO 37 1 := ⟨by decide, ⟨by decide, by decide, by decide +kernel⟩, by decide, sc_inG 292 rfl rfl, sc_inG 1 (by decide +kernel) (by decide +kernel)⟩
set_option maxRecDepth 100000 in
theorem lkM_37 : Cond.methodLink "StageChipLaw" 38 ⟨"StageChip", "cycles", "(I)I"⟩ ∈ sc_G := sc_inG 289 (by decide +kernel) (by decide +kernel)
set_option maxRecDepth 100000 in
theorem lkI_37 : Cond.instanceMethod ⟨"StageChip", "cycles", "(I)I"⟩ ∈ sc_G := sc_inG 290 (by decide +kernel) (by decide +kernel)
set_option maxRecDepth 100000 in
theorem lkS_37 : Cond.selects "StageChip" ⟨"StageChip", "cycles", "(I)I"⟩ ⟨"StageChip", "cycles", "(I)I"⟩ ∈ sc_G := sc_inG 291 (by decide +kernel) (by decide +kernel)
set_option maxRecDepth 100000 in
theorem lx_cycles_r {l : Launch} {dC : Nat → ClassId} {dI : Nat → Nat → Nat} {ad : Nat → Nat} {cA : Nat → ClassId} {LP : List Nat} {o : Nat → Int64} {A : Nat → Prop} {k : Nat → Nat} {I : sc_I} {D : sc_R} {K : sc_RT} {Kw : lx_KT} (hD : ∀ I D, va_D A (sc_w ad cA LP o I D)) {d : Nat} (hd : d ≤ 7) {w : Int32} (hM : sc_Met l d dC dI ad cA LP o A 37 [.inr (2, 0), .inl w] I D K) (hK : ∀ r I' D', K r I' D' → ∃ b, r = some (.inl b) ∧ Kw 0 (vp_updL o 0 b.toInt64) I' D') : lx_Met l dC dI ad cA LP o A k yL_cycles cL_cycles 4 [(0, 9, 12, 15)] [.inr (2, 0), .inl w, .inr (8, 0)] I D Kw := by
  refine lx_pub (by decide) (Nat.le_of_ble_eq_true rfl) ?_
  intro p e s m args below meth c ls hx hb hr hml hown hts hlk htb hK0 hP hZ hls
  refine lv_aload_n hx hb dL_cycles_0 rfl (lv_at hls 2 rfl) ?_
  refine lv_iconst hx hb dL_cycles_1 rfl ?_
  refine lv_aload_n hx hb dL_cycles_2 rfl (lv_at hls 0 rfl) ?_
  refine lv_iload_n hx hb dL_cycles_3 rfl (lv_at hls 1 rfl) ?_
  refine lx_callV (as := [.inl w]) (rest := [.int 0, .ref (ad 10)]) lx_sub hM lmo_37 rfl (by decide) rfl rfl lkM_37 lkI_37 lkS_37 hx hb hml hown hts hls.1 hK0 (by show d + 1 ≤ 8; omega) (by show 30 * (d + 1) ≤ 240; omega) (by decide) (by decide) (Nat.le_of_ble_eq_true rfl) hP va_S.rf dL_cycles_4 ?_
  intro r I' D' H1 locs1 hq hvd hP1 hS1
  obtain ⟨b, rfl, hw⟩ := hK r I' D' hq
  refine lv_i2l hx hb dL_cycles_7 rfl ?_
  refine va_last hx hb hK0.1 hP1 (hD I' D') hS1 10 26 lx_w_out lx_ty26 lx_v0 dL_cycles_8 ?_
  intro H2 locs2 hP2 _ hS2
  rw [lx_w_outset] at hP2
  refine lv_goto hx hb dL_cycles_9 (tgt := 15) (by decide) ?_
  refine lv_iconst hx hb dL_cycles_15 rfl ?_
  refine W.widen (k := 1) (n := 6) (by decide) (by decide) ?_
  exact W.iret hx hb hr (fun t ht hW => ⟨0, _, I', D', rfl, hw, hvd, by rw [ht]; exact hP2, hS2.F ht⟩) hS2.2.2 dL_cycles_16 hlk
set_option maxRecDepth 100000 in
theorem lx_cycles_x {l : Launch} {dC : Nat → ClassId} {dI : Nat → Nat → Nat} {ad : Nat → Nat} {cA : Nat → ClassId} {LP : List Nat} {o : Nat → Int64} {A : Nat → Prop} {k : Nat → Nat} {I : sc_I} {D : sc_R} {Kw : lx_KT} (hv : sc_vd LP D) {w : Int32} (hM : tx_Met l 1 dC dI ad cA LP o A k 37 [.inr (2, 0), .inl w] I D tx_A) (hK : Kw 1 o I D) : lx_Met l dC dI ad cA LP o A k yL_cycles cL_cycles 4 [(0, 9, 12, 15)] [.inr (2, 0), .inl w, .inr (8, 0)] I D Kw := by
  refine lx_pub (by decide) (Nat.le_of_ble_eq_true rfl) ?_
  intro p e s m args below meth c ls hx hb hr hml hown hts hlk htb hK0 hP hZ hls
  refine lv_aload_n hx hb dL_cycles_0 rfl (lv_at hls 2 rfl) ?_
  refine lv_iconst hx hb dL_cycles_1 rfl ?_
  refine lv_aload_n hx hb dL_cycles_2 rfl (lv_at hls 0 rfl) ?_
  refine lv_iload_n hx hb dL_cycles_3 rfl (lv_at hls 1 rfl) ?_
  refine lx_callX (as := [.inl w]) (rest := [.int 0, .ref (ad 10)]) (y := sc_y 37) (cy := sc_c 37) (ny := sc_nL 37) (ry := sc_rt 37) lx_sub hM ⟨rfl, lmo_37.2.1⟩ lmo_37.2.2.1 rfl lkM_37 lkI_37 lkS_37 lx_i2 lmo_37.2.2.2.1 hx hb hml hown hts hls.1 hK0 hZ (by decide) (by decide) (by decide) (by decide) (Nat.le_of_ble_eq_true rfl) hP va_S.rf dL_cycles_4 [] _ [] htb (fun z hz => by cases hz) rfl (by decide) lx_c15 (by decide +kernel) ?_
  intro q H1 locs1 hP1 hS1
  refine lv_astore_n hx hb dL_cycles_12 rfl hls (by decide) rfl ?_
  intro ls' _
  refine lv_iconst hx hb dL_cycles_13 rfl ?_
  exact W.iret hx hb hr (fun t ht hW => ⟨1, o, I, D, rfl, hK, hv, by rw [ht]; exact hP1, hS1.F ht⟩) hS1.2.2 dL_cycles_14 hlk
set_option maxRecDepth 100000 in
theorem lmo_38 : sc_MO 38 1 := ⟨by decide, ⟨by decide, by decide, by decide +kernel⟩, by decide, sc_inG 413 rfl rfl, sc_inG 1 (by decide +kernel) (by decide +kernel)⟩
set_option maxRecDepth 100000 in
theorem lkM_38 : Cond.methodLink "StageChipLaw" 41 ⟨"StageChip", "stage", "(I)I"⟩ ∈ sc_G := sc_inG 410 (by decide +kernel) (by decide +kernel)
set_option maxRecDepth 100000 in
theorem lkI_38 : Cond.instanceMethod ⟨"StageChip", "stage", "(I)I"⟩ ∈ sc_G := sc_inG 411 (by decide +kernel) (by decide +kernel)
set_option maxRecDepth 100000 in
theorem lkS_38 : Cond.selects "StageChip" ⟨"StageChip", "stage", "(I)I"⟩ ⟨"StageChip", "stage", "(I)I"⟩ ∈ sc_G := sc_inG 412 (by decide +kernel) (by decide +kernel)
set_option maxRecDepth 100000 in
theorem lx_stage_r {l : Launch} {dC : Nat → ClassId} {dI : Nat → Nat → Nat} {ad : Nat → Nat} {cA : Nat → ClassId} {LP : List Nat} {o : Nat → Int64} {A : Nat → Prop} {k : Nat → Nat} {I : sc_I} {D : sc_R} {K : sc_RT} {Kw : lx_KT} (hD : ∀ I D, va_D A (sc_w ad cA LP o I D)) {d : Nat} (hd : d ≤ 7) {w : Int32} (hM : sc_Met l d dC dI ad cA LP o A 38 [.inr (2, 0), .inl w] I D K) (hK : ∀ r I' D', K r I' D' → ∃ b, r = some (.inl b) ∧ Kw 0 (vp_updL o 0 b.toInt64) I' D') : lx_Met l dC dI ad cA LP o A k yL_stage cL_stage 4 [(0, 9, 12, 13)] [.inr (2, 0), .inl w, .inr (8, 0)] I D Kw := by
  refine lx_pub (by decide) (Nat.le_of_ble_eq_true rfl) ?_
  intro p e s m args below meth c ls hx hb hr hml hown hts hlk htb hK0 hP hZ hls
  refine lv_aload_n hx hb dL_stage_0 rfl (lv_at hls 2 rfl) ?_
  refine lv_iconst hx hb dL_stage_1 rfl ?_
  refine lv_aload_n hx hb dL_stage_2 rfl (lv_at hls 0 rfl) ?_
  refine lv_iload_n hx hb dL_stage_3 rfl (lv_at hls 1 rfl) ?_
  refine lx_callV (as := [.inl w]) (rest := [.int 0, .ref (ad 10)]) lx_sub hM lmo_38 rfl (by decide) rfl rfl lkM_38 lkI_38 lkS_38 hx hb hml hown hts hls.1 hK0 (by show d + 1 ≤ 8; omega) (by show 30 * (d + 1) ≤ 240; omega) (by decide) (by decide) (Nat.le_of_ble_eq_true rfl) hP va_S.rf dL_stage_4 ?_
  intro r I' D' H1 locs1 hq hvd hP1 hS1
  obtain ⟨b, rfl, hw⟩ := hK r I' D' hq
  refine lv_i2l hx hb dL_stage_7 rfl ?_
  refine va_last hx hb hK0.1 hP1 (hD I' D') hS1 10 26 lx_w_out lx_ty26 lx_v0 dL_stage_8 ?_
  intro H2 locs2 hP2 _ hS2
  rw [lx_w_outset] at hP2
  refine lv_goto hx hb dL_stage_9 (tgt := 15) (by decide) ?_
  refine lv_iconst hx hb dL_stage_15 rfl ?_
  refine W.widen (k := 1) (n := 6) (by decide) (by decide) ?_
  exact W.iret hx hb hr (fun t ht hW => ⟨0, _, I', D', rfl, hw, hvd, by rw [ht]; exact hP2, hS2.F ht⟩) hS2.2.2 dL_stage_16 hlk
set_option maxRecDepth 100000 in
theorem lx_stage_x {l : Launch} {dC : Nat → ClassId} {dI : Nat → Nat → Nat} {ad : Nat → Nat} {cA : Nat → ClassId} {LP : List Nat} {o : Nat → Int64} {A : Nat → Prop} {k : Nat → Nat} {I : sc_I} {D : sc_R} {Kw : lx_KT} (hv : sc_vd LP D) {w : Int32} (hM : tx_Met l 1 dC dI ad cA LP o A k 38 [.inr (2, 0), .inl w] I D tx_I) (hK : Kw 1 o I D) : lx_Met l dC dI ad cA LP o A k yL_stage cL_stage 4 [(0, 9, 12, 13)] [.inr (2, 0), .inl w, .inr (8, 0)] I D Kw := by
  refine lx_pub (by decide) (Nat.le_of_ble_eq_true rfl) ?_
  intro p e s m args below meth c ls hx hb hr hml hown hts hlk htb hK0 hP hZ hls
  refine lv_aload_n hx hb dL_stage_0 rfl (lv_at hls 2 rfl) ?_
  refine lv_iconst hx hb dL_stage_1 rfl ?_
  refine lv_aload_n hx hb dL_stage_2 rfl (lv_at hls 0 rfl) ?_
  refine lv_iload_n hx hb dL_stage_3 rfl (lv_at hls 1 rfl) ?_
  refine lx_callX (as := [.inl w]) (rest := [.int 0, .ref (ad 10)]) (y := sc_y 38) (cy := sc_c 38) (ny := sc_nL 38) (ry := sc_rt 38) lx_sub hM ⟨rfl, lmo_38.2.1⟩ lmo_38.2.2.1 rfl lkM_38 lkI_38 lkS_38 lx_i2 lmo_38.2.2.2.1 hx hb hml hown hts hls.1 hK0 hZ (by decide) (by decide) (by decide) (by decide) (Nat.le_of_ble_eq_true rfl) hP va_S.rf dL_stage_4 [] _ [] htb (fun z hz => by cases hz) rfl (by decide) lx_c13 (by decide +kernel) ?_
  intro q H1 locs1 hP1 hS1
  refine lv_astore_n hx hb dL_stage_12 rfl hls (by decide) rfl ?_
  intro ls' _
  refine lv_iconst hx hb dL_stage_13 rfl ?_
  exact W.iret hx hb hr (fun t ht hW => ⟨1, o, I, D, rfl, hK, hv, by rw [ht]; exact hP1, hS1.F ht⟩) hS1.2.2 dL_stage_14 hlk
set_option maxRecDepth 100000 in
theorem lmo_39 : sc_MO 39 1 := ⟨by decide, ⟨by decide, by decide, by decide +kernel⟩, by decide, sc_inG 420 rfl rfl, sc_inG 1 (by decide +kernel) (by decide +kernel)⟩
set_option maxRecDepth 100000 in
theorem lkM_39 : Cond.methodLink "StageChipLaw" 44 ⟨"StageChip", "counter", "(I)I"⟩ ∈ sc_G := sc_inG 417 (by decide +kernel) (by decide +kernel)
set_option maxRecDepth 100000 in
theorem lkI_39 : Cond.instanceMethod ⟨"StageChip", "counter", "(I)I"⟩ ∈ sc_G := sc_inG 418 (by decide +kernel) (by decide +kernel)
set_option maxRecDepth 100000 in
theorem lkS_39 : Cond.selects "StageChip" ⟨"StageChip", "counter", "(I)I"⟩ ⟨"StageChip", "counter", "(I)I"⟩ ∈ sc_G := sc_inG 419 (by decide +kernel) (by decide +kernel)
set_option maxRecDepth 100000 in
theorem lx_counter_r {l : Launch} {dC : Nat → ClassId} {dI : Nat → Nat → Nat} {ad : Nat → Nat} {cA : Nat → ClassId} {LP : List Nat} {o : Nat → Int64} {A : Nat → Prop} {k : Nat → Nat} {I : sc_I} {D : sc_R} {K : sc_RT} {Kw : lx_KT} (hD : ∀ I D, va_D A (sc_w ad cA LP o I D)) {d : Nat} (hd : d ≤ 7) {w : Int32} (hM : sc_Met l d dC dI ad cA LP o A 39 [.inr (2, 0), .inl w] I D K) (hK : ∀ r I' D', K r I' D' → ∃ b, r = some (.inl b) ∧ Kw 0 (vp_updL o 0 b.toInt64) I' D') : lx_Met l dC dI ad cA LP o A k yL_counter cL_counter 4 [(0, 9, 12, 13)] [.inr (2, 0), .inl w, .inr (8, 0)] I D Kw := by
  refine lx_pub (by decide) (Nat.le_of_ble_eq_true rfl) ?_
  intro p e s m args below meth c ls hx hb hr hml hown hts hlk htb hK0 hP hZ hls
  refine lv_aload_n hx hb dL_counter_0 rfl (lv_at hls 2 rfl) ?_
  refine lv_iconst hx hb dL_counter_1 rfl ?_
  refine lv_aload_n hx hb dL_counter_2 rfl (lv_at hls 0 rfl) ?_
  refine lv_iload_n hx hb dL_counter_3 rfl (lv_at hls 1 rfl) ?_
  refine lx_callV (as := [.inl w]) (rest := [.int 0, .ref (ad 10)]) lx_sub hM lmo_39 rfl (by decide) rfl rfl lkM_39 lkI_39 lkS_39 hx hb hml hown hts hls.1 hK0 (by show d + 1 ≤ 8; omega) (by show 30 * (d + 1) ≤ 240; omega) (by decide) (by decide) (Nat.le_of_ble_eq_true rfl) hP va_S.rf dL_counter_4 ?_
  intro r I' D' H1 locs1 hq hvd hP1 hS1
  obtain ⟨b, rfl, hw⟩ := hK r I' D' hq
  refine lv_i2l hx hb dL_counter_7 rfl ?_
  refine va_last hx hb hK0.1 hP1 (hD I' D') hS1 10 26 lx_w_out lx_ty26 lx_v0 dL_counter_8 ?_
  intro H2 locs2 hP2 _ hS2
  rw [lx_w_outset] at hP2
  refine lv_goto hx hb dL_counter_9 (tgt := 15) (by decide) ?_
  refine lv_iconst hx hb dL_counter_15 rfl ?_
  refine W.widen (k := 1) (n := 6) (by decide) (by decide) ?_
  exact W.iret hx hb hr (fun t ht hW => ⟨0, _, I', D', rfl, hw, hvd, by rw [ht]; exact hP2, hS2.F ht⟩) hS2.2.2 dL_counter_16 hlk
set_option maxRecDepth 100000 in
theorem lx_counter_x {l : Launch} {dC : Nat → ClassId} {dI : Nat → Nat → Nat} {ad : Nat → Nat} {cA : Nat → ClassId} {LP : List Nat} {o : Nat → Int64} {A : Nat → Prop} {k : Nat → Nat} {I : sc_I} {D : sc_R} {Kw : lx_KT} (hv : sc_vd LP D) {w : Int32} (hM : tx_Met l 1 dC dI ad cA LP o A k 39 [.inr (2, 0), .inl w] I D tx_I) (hK : Kw 1 o I D) : lx_Met l dC dI ad cA LP o A k yL_counter cL_counter 4 [(0, 9, 12, 13)] [.inr (2, 0), .inl w, .inr (8, 0)] I D Kw := by
  refine lx_pub (by decide) (Nat.le_of_ble_eq_true rfl) ?_
  intro p e s m args below meth c ls hx hb hr hml hown hts hlk htb hK0 hP hZ hls
  refine lv_aload_n hx hb dL_counter_0 rfl (lv_at hls 2 rfl) ?_
  refine lv_iconst hx hb dL_counter_1 rfl ?_
  refine lv_aload_n hx hb dL_counter_2 rfl (lv_at hls 0 rfl) ?_
  refine lv_iload_n hx hb dL_counter_3 rfl (lv_at hls 1 rfl) ?_
  refine lx_callX (as := [.inl w]) (rest := [.int 0, .ref (ad 10)]) (y := sc_y 39) (cy := sc_c 39) (ny := sc_nL 39) (ry := sc_rt 39) lx_sub hM ⟨rfl, lmo_39.2.1⟩ lmo_39.2.2.1 rfl lkM_39 lkI_39 lkS_39 lx_i2 lmo_39.2.2.2.1 hx hb hml hown hts hls.1 hK0 hZ (by decide) (by decide) (by decide) (by decide) (Nat.le_of_ble_eq_true rfl) hP va_S.rf dL_counter_4 [] _ [] htb (fun z hz => by cases hz) rfl (by decide) lx_c13 (by decide +kernel) ?_
  intro q H1 locs1 hP1 hS1
  refine lv_astore_n hx hb dL_counter_12 rfl hls (by decide) rfl ?_
  intro ls' _
  refine lv_iconst hx hb dL_counter_13 rfl ?_
  exact W.iret hx hb hr (fun t ht hW => ⟨1, o, I, D, rfl, hK, hv, by rw [ht]; exact hP1, hS1.F ht⟩) hS1.2.2 dL_counter_14 hlk
set_option maxRecDepth 100000 in
theorem lmo_40 : sc_MO 40 1 := ⟨by decide, ⟨by decide, by decide, by decide +kernel⟩, by decide, sc_inG 427 rfl rfl, sc_inG 1 (by decide +kernel) (by decide +kernel)⟩
set_option maxRecDepth 100000 in
theorem lkM_40 : Cond.methodLink "StageChipLaw" 47 ⟨"StageChip", "retired", "(I)I"⟩ ∈ sc_G := sc_inG 424 (by decide +kernel) (by decide +kernel)
set_option maxRecDepth 100000 in
theorem lkI_40 : Cond.instanceMethod ⟨"StageChip", "retired", "(I)I"⟩ ∈ sc_G := sc_inG 425 (by decide +kernel) (by decide +kernel)
set_option maxRecDepth 100000 in
theorem lkS_40 : Cond.selects "StageChip" ⟨"StageChip", "retired", "(I)I"⟩ ⟨"StageChip", "retired", "(I)I"⟩ ∈ sc_G := sc_inG 426 (by decide +kernel) (by decide +kernel)
set_option maxRecDepth 100000 in
theorem lx_retired_r {l : Launch} {dC : Nat → ClassId} {dI : Nat → Nat → Nat} {ad : Nat → Nat} {cA : Nat → ClassId} {LP : List Nat} {o : Nat → Int64} {A : Nat → Prop} {k : Nat → Nat} {I : sc_I} {D : sc_R} {K : sc_RT} {Kw : lx_KT} (hD : ∀ I D, va_D A (sc_w ad cA LP o I D)) {d : Nat} (hd : d ≤ 7) {w : Int32} (hM : sc_Met l d dC dI ad cA LP o A 40 [.inr (2, 0), .inl w] I D K) (hK : ∀ r I' D', K r I' D' → ∃ b, r = some (.inl b) ∧ Kw 0 (vp_updL o 0 b.toInt64) I' D') : lx_Met l dC dI ad cA LP o A k yL_retired cL_retired 4 [(0, 9, 12, 13)] [.inr (2, 0), .inl w, .inr (8, 0)] I D Kw := by
  refine lx_pub (by decide) (Nat.le_of_ble_eq_true rfl) ?_
  intro p e s m args below meth c ls hx hb hr hml hown hts hlk htb hK0 hP hZ hls
  refine lv_aload_n hx hb dL_retired_0 rfl (lv_at hls 2 rfl) ?_
  refine lv_iconst hx hb dL_retired_1 rfl ?_
  refine lv_aload_n hx hb dL_retired_2 rfl (lv_at hls 0 rfl) ?_
  refine lv_iload_n hx hb dL_retired_3 rfl (lv_at hls 1 rfl) ?_
  refine lx_callV (as := [.inl w]) (rest := [.int 0, .ref (ad 10)]) lx_sub hM lmo_40 rfl (by decide) rfl rfl lkM_40 lkI_40 lkS_40 hx hb hml hown hts hls.1 hK0 (by show d + 1 ≤ 8; omega) (by show 30 * (d + 1) ≤ 240; omega) (by decide) (by decide) (Nat.le_of_ble_eq_true rfl) hP va_S.rf dL_retired_4 ?_
  intro r I' D' H1 locs1 hq hvd hP1 hS1
  obtain ⟨b, rfl, hw⟩ := hK r I' D' hq
  refine lv_i2l hx hb dL_retired_7 rfl ?_
  refine va_last hx hb hK0.1 hP1 (hD I' D') hS1 10 26 lx_w_out lx_ty26 lx_v0 dL_retired_8 ?_
  intro H2 locs2 hP2 _ hS2
  rw [lx_w_outset] at hP2
  refine lv_goto hx hb dL_retired_9 (tgt := 15) (by decide) ?_
  refine lv_iconst hx hb dL_retired_15 rfl ?_
  refine W.widen (k := 1) (n := 6) (by decide) (by decide) ?_
  exact W.iret hx hb hr (fun t ht hW => ⟨0, _, I', D', rfl, hw, hvd, by rw [ht]; exact hP2, hS2.F ht⟩) hS2.2.2 dL_retired_16 hlk
set_option maxRecDepth 100000 in
theorem lx_retired_x {l : Launch} {dC : Nat → ClassId} {dI : Nat → Nat → Nat} {ad : Nat → Nat} {cA : Nat → ClassId} {LP : List Nat} {o : Nat → Int64} {A : Nat → Prop} {k : Nat → Nat} {I : sc_I} {D : sc_R} {Kw : lx_KT} (hv : sc_vd LP D) {w : Int32} (hM : tx_Met l 1 dC dI ad cA LP o A k 40 [.inr (2, 0), .inl w] I D tx_I) (hK : Kw 1 o I D) : lx_Met l dC dI ad cA LP o A k yL_retired cL_retired 4 [(0, 9, 12, 13)] [.inr (2, 0), .inl w, .inr (8, 0)] I D Kw := by
  refine lx_pub (by decide) (Nat.le_of_ble_eq_true rfl) ?_
  intro p e s m args below meth c ls hx hb hr hml hown hts hlk htb hK0 hP hZ hls
  refine lv_aload_n hx hb dL_retired_0 rfl (lv_at hls 2 rfl) ?_
  refine lv_iconst hx hb dL_retired_1 rfl ?_
  refine lv_aload_n hx hb dL_retired_2 rfl (lv_at hls 0 rfl) ?_
  refine lv_iload_n hx hb dL_retired_3 rfl (lv_at hls 1 rfl) ?_
  refine lx_callX (as := [.inl w]) (rest := [.int 0, .ref (ad 10)]) (y := sc_y 40) (cy := sc_c 40) (ny := sc_nL 40) (ry := sc_rt 40) lx_sub hM ⟨rfl, lmo_40.2.1⟩ lmo_40.2.2.1 rfl lkM_40 lkI_40 lkS_40 lx_i2 lmo_40.2.2.2.1 hx hb hml hown hts hls.1 hK0 hZ (by decide) (by decide) (by decide) (by decide) (Nat.le_of_ble_eq_true rfl) hP va_S.rf dL_retired_4 [] _ [] htb (fun z hz => by cases hz) rfl (by decide) lx_c13 (by decide +kernel) ?_
  intro q H1 locs1 hP1 hS1
  refine lv_astore_n hx hb dL_retired_12 rfl hls (by decide) rfl ?_
  intro ls' _
  refine lv_iconst hx hb dL_retired_13 rfl ?_
  exact W.iret hx hb hr (fun t ht hW => ⟨1, o, I, D, rfl, hK, hv, by rw [ht]; exact hP1, hS1.F ht⟩) hS1.2.2 dL_retired_14 hlk
set_option maxRecDepth 100000 in
theorem lmo_41 : sc_MO 41 1 := ⟨by decide, ⟨by decide, by decide, by decide +kernel⟩, by decide, sc_inG 434 rfl rfl, sc_inG 1 (by decide +kernel) (by decide +kernel)⟩
set_option maxRecDepth 100000 in
theorem lkM_41 : Cond.methodLink "StageChipLaw" 50 ⟨"StageChip", "count", "(I)I"⟩ ∈ sc_G := sc_inG 431 (by decide +kernel) (by decide +kernel)
set_option maxRecDepth 100000 in
theorem lkI_41 : Cond.instanceMethod ⟨"StageChip", "count", "(I)I"⟩ ∈ sc_G := sc_inG 432 (by decide +kernel) (by decide +kernel)
set_option maxRecDepth 100000 in
theorem lkS_41 : Cond.selects "StageChip" ⟨"StageChip", "count", "(I)I"⟩ ⟨"StageChip", "count", "(I)I"⟩ ∈ sc_G := sc_inG 433 (by decide +kernel) (by decide +kernel)
set_option maxRecDepth 100000 in
theorem lx_count_r {l : Launch} {dC : Nat → ClassId} {dI : Nat → Nat → Nat} {ad : Nat → Nat} {cA : Nat → ClassId} {LP : List Nat} {o : Nat → Int64} {A : Nat → Prop} {k : Nat → Nat} {I : sc_I} {D : sc_R} {K : sc_RT} {Kw : lx_KT} (hD : ∀ I D, va_D A (sc_w ad cA LP o I D)) {d : Nat} (hd : d ≤ 7) {w : Int32} (hM : sc_Met l d dC dI ad cA LP o A 41 [.inr (2, 0), .inl w] I D K) (hK : ∀ r I' D', K r I' D' → ∃ b, r = some (.inl b) ∧ Kw 0 (vp_updL o 0 b.toInt64) I' D') : lx_Met l dC dI ad cA LP o A k yL_count cL_count 4 [(0, 9, 12, 15)] [.inr (2, 0), .inl w, .inr (8, 0)] I D Kw := by
  refine lx_pub (by decide) (Nat.le_of_ble_eq_true rfl) ?_
  intro p e s m args below meth c ls hx hb hr hml hown hts hlk htb hK0 hP hZ hls
  refine lv_aload_n hx hb dL_count_0 rfl (lv_at hls 2 rfl) ?_
  refine lv_iconst hx hb dL_count_1 rfl ?_
  refine lv_aload_n hx hb dL_count_2 rfl (lv_at hls 0 rfl) ?_
  refine lv_iload_n hx hb dL_count_3 rfl (lv_at hls 1 rfl) ?_
  refine lx_callV (as := [.inl w]) (rest := [.int 0, .ref (ad 10)]) lx_sub hM lmo_41 rfl (by decide) rfl rfl lkM_41 lkI_41 lkS_41 hx hb hml hown hts hls.1 hK0 (by show d + 1 ≤ 8; omega) (by show 30 * (d + 1) ≤ 240; omega) (by decide) (by decide) (Nat.le_of_ble_eq_true rfl) hP va_S.rf dL_count_4 ?_
  intro r I' D' H1 locs1 hq hvd hP1 hS1
  obtain ⟨b, rfl, hw⟩ := hK r I' D' hq
  refine lv_i2l hx hb dL_count_7 rfl ?_
  refine va_last hx hb hK0.1 hP1 (hD I' D') hS1 10 26 lx_w_out lx_ty26 lx_v0 dL_count_8 ?_
  intro H2 locs2 hP2 _ hS2
  rw [lx_w_outset] at hP2
  refine lv_goto hx hb dL_count_9 (tgt := 15) (by decide) ?_
  refine lv_iconst hx hb dL_count_15 rfl ?_
  refine W.widen (k := 1) (n := 6) (by decide) (by decide) ?_
  exact W.iret hx hb hr (fun t ht hW => ⟨0, _, I', D', rfl, hw, hvd, by rw [ht]; exact hP2, hS2.F ht⟩) hS2.2.2 dL_count_16 hlk
set_option maxRecDepth 100000 in
theorem lx_count_x {l : Launch} {dC : Nat → ClassId} {dI : Nat → Nat → Nat} {ad : Nat → Nat} {cA : Nat → ClassId} {LP : List Nat} {o : Nat → Int64} {A : Nat → Prop} {k : Nat → Nat} {I : sc_I} {D : sc_R} {Kw : lx_KT} (hv : sc_vd LP D) {w : Int32} (hM : tx_Met l 1 dC dI ad cA LP o A k 41 [.inr (2, 0), .inl w] I D tx_A) (hK : Kw 1 o I D) : lx_Met l dC dI ad cA LP o A k yL_count cL_count 4 [(0, 9, 12, 15)] [.inr (2, 0), .inl w, .inr (8, 0)] I D Kw := by
  refine lx_pub (by decide) (Nat.le_of_ble_eq_true rfl) ?_
  intro p e s m args below meth c ls hx hb hr hml hown hts hlk htb hK0 hP hZ hls
  refine lv_aload_n hx hb dL_count_0 rfl (lv_at hls 2 rfl) ?_
  refine lv_iconst hx hb dL_count_1 rfl ?_
  refine lv_aload_n hx hb dL_count_2 rfl (lv_at hls 0 rfl) ?_
  refine lv_iload_n hx hb dL_count_3 rfl (lv_at hls 1 rfl) ?_
  refine lx_callX (as := [.inl w]) (rest := [.int 0, .ref (ad 10)]) (y := sc_y 41) (cy := sc_c 41) (ny := sc_nL 41) (ry := sc_rt 41) lx_sub hM ⟨rfl, lmo_41.2.1⟩ lmo_41.2.2.1 rfl lkM_41 lkI_41 lkS_41 lx_i2 lmo_41.2.2.2.1 hx hb hml hown hts hls.1 hK0 hZ (by decide) (by decide) (by decide) (by decide) (Nat.le_of_ble_eq_true rfl) hP va_S.rf dL_count_4 [] _ [] htb (fun z hz => by cases hz) rfl (by decide) lx_c15 (by decide +kernel) ?_
  intro q H1 locs1 hP1 hS1
  refine lv_astore_n hx hb dL_count_12 rfl hls (by decide) rfl ?_
  intro ls' _
  refine lv_iconst hx hb dL_count_13 rfl ?_
  exact W.iret hx hb hr (fun t ht hW => ⟨1, o, I, D, rfl, hK, hv, by rw [ht]; exact hP1, hS1.F ht⟩) hS1.2.2 dL_count_14 hlk
set_option maxRecDepth 100000 in
theorem lmo_15 : sc_MO 15 1 := ⟨by decide, ⟨by decide, by decide, by decide +kernel⟩, by decide, sc_inG 274 rfl rfl, sc_inG 1 (by decide +kernel) (by decide +kernel)⟩
set_option maxRecDepth 100000 in
theorem lkM_15 : Cond.methodLink "StageChipLaw" 31 ⟨"StageChip", "start", "(I)V"⟩ ∈ sc_G := sc_inG 271 (by decide +kernel) (by decide +kernel)
set_option maxRecDepth 100000 in
theorem lkI_15 : Cond.instanceMethod ⟨"StageChip", "start", "(I)V"⟩ ∈ sc_G := sc_inG 272 (by decide +kernel) (by decide +kernel)
set_option maxRecDepth 100000 in
theorem lkS_15 : Cond.selects "StageChip" ⟨"StageChip", "start", "(I)V"⟩ ⟨"StageChip", "start", "(I)V"⟩ ∈ sc_G := sc_inG 273 (by decide +kernel) (by decide +kernel)
set_option maxRecDepth 100000 in
theorem lx_start_r {l : Launch} {dC : Nat → ClassId} {dI : Nat → Nat → Nat} {ad : Nat → Nat} {cA : Nat → ClassId} {LP : List Nat} {o : Nat → Int64} {A : Nat → Prop} {k : Nat → Nat} {I : sc_I} {D : sc_R} {K : sc_RT} {Kw : lx_KT} (hD : ∀ I D, va_D A (sc_w ad cA LP o I D)) {d : Nat} (hd : d ≤ 7) {w : Int32} (hM : sc_Met l d dC dI ad cA LP o A 15 [.inr (2, 0), .inl w] I D K) (hK : ∀ r I' D', K r I' D' → r = none ∧ Kw 0 o I' D') : lx_Met l dC dI ad cA LP o A k yL_start cL_start 3 [(0, 5, 8, 13)] [.inr (2, 0), .inl w] I D Kw := by
  refine lx_pub (by decide) (Nat.le_of_ble_eq_true rfl) ?_
  intro p e s m args below meth c ls hx hb hr hml hown hts hlk htb hK0 hP hZ hls
  refine lv_aload_n hx hb dL_start_0 rfl (lv_at hls 0 rfl) ?_
  refine lv_iload_n hx hb dL_start_1 rfl (lv_at hls 1 rfl) ?_
  refine lx_callV (as := [.inl w]) (rest := []) lx_sub hM lmo_15 rfl (by decide) rfl rfl lkM_15 lkI_15 lkS_15 hx hb hml hown hts hls.1 hK0 (by show d + 1 ≤ 8; omega) (by show 30 * (d + 1) ≤ 240; omega) (by decide) (by decide) (Nat.le_of_ble_eq_true rfl) hP va_S.rf dL_start_2 ?_
  intro r I' D' H1 locs1 hq hvd hP1 hS1
  obtain ⟨rfl, hw⟩ := hK r I' D' hq
  have hP2 := hP1
  have hS2 := hS1
  refine lv_goto hx hb dL_start_5 (tgt := 11) (by decide) ?_
  refine lv_iconst hx hb dL_start_11 rfl ?_
  refine W.widen (k := 1) (n := 6) (by decide) (by decide) ?_
  exact W.iret hx hb hr (fun t ht hW => ⟨0, _, I', D', rfl, hw, hvd, by rw [ht]; exact hP2, hS2.F ht⟩) hS2.2.2 dL_start_12 hlk
set_option maxRecDepth 100000 in
theorem lx_start_x {l : Launch} {dC : Nat → ClassId} {dI : Nat → Nat → Nat} {ad : Nat → Nat} {cA : Nat → ClassId} {LP : List Nat} {o : Nat → Int64} {A : Nat → Prop} {k : Nat → Nat} {I : sc_I} {D : sc_R} {Kw : lx_KT} (hv : sc_vd LP D) {w : Int32} (hM : tx_Met l 1 dC dI ad cA LP o A k 15 [.inr (2, 0), .inl w] I D tx_I) (hK : Kw 1 o I D) : lx_Met l dC dI ad cA LP o A k yL_start cL_start 3 [(0, 5, 8, 13)] [.inr (2, 0), .inl w] I D Kw := by
  refine lx_pub (by decide) (Nat.le_of_ble_eq_true rfl) ?_
  intro p e s m args below meth c ls hx hb hr hml hown hts hlk htb hK0 hP hZ hls
  refine lv_aload_n hx hb dL_start_0 rfl (lv_at hls 0 rfl) ?_
  refine lv_iload_n hx hb dL_start_1 rfl (lv_at hls 1 rfl) ?_
  refine lx_callX (as := [.inl w]) (rest := []) (y := sc_y 15) (cy := sc_c 15) (ny := sc_nL 15) (ry := sc_rt 15) lx_sub hM ⟨rfl, lmo_15.2.1⟩ lmo_15.2.2.1 rfl lkM_15 lkI_15 lkS_15 lx_i2 lmo_15.2.2.2.1 hx hb hml hown hts hls.1 hK0 hZ (by decide) (by decide) (by decide) (by decide) (Nat.le_of_ble_eq_true rfl) hP va_S.rf dL_start_2 [] _ [] htb (fun z hz => by cases hz) rfl (by decide) lx_c13 (by decide +kernel) ?_
  intro q H1 locs1 hP1 hS1
  refine lv_astore_n hx hb dL_start_8 rfl hls (by decide) rfl ?_
  intro ls' _
  refine lv_iconst hx hb dL_start_9 rfl ?_
  exact W.iret hx hb hr (fun t ht hW => ⟨1, o, I, D, rfl, hK, hv, by rw [ht]; exact hP1, hS1.F ht⟩) hS1.2.2 dL_start_10 hlk
