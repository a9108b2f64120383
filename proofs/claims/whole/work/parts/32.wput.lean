set_option maxRecDepth 100000 in
theorem lkM_put : Cond.methodLink "StageChipLaw" 7 ⟨"StageChip", "put", "(IIIIII)V"⟩ ∈ sc_G := sc_inG 146 (by decide +kernel) (by decide +kernel)
set_option maxRecDepth 100000 in
theorem lkI_put : Cond.instanceMethod ⟨"StageChip", "put", "(IIIIII)V"⟩ ∈ sc_G := sc_inG 147 (by decide +kernel) (by decide +kernel)
set_option maxRecDepth 100000 in
theorem lkS_put : Cond.selects "StageChip" ⟨"StageChip", "put", "(IIIIII)V"⟩ ⟨"StageChip", "put", "(IIIIII)V"⟩ ∈ sc_G := sc_inG 148 (by decide +kernel) (by decide +kernel)
set_option maxRecDepth 100000 in
theorem lkC_put : Cond.code yX2_put cX2_put 7 none ∈ sc_G := sc_inG 149 rfl rfl
theorem lkD_put : yX2_put.cls = RX2 ∧ yX2_put.cls ≠ "java/lang/invoke/MethodHandle" ∧ yX2_put.cls ≠ "java/lang/invoke/VarHandle" ∧ (parseMethodDescriptor yX2_put.desc).map (fun d => d.parameters.length) = some 6 := ⟨rfl, by decide, by decide, by decide +kernel⟩
set_option maxRecDepth 100000 in
theorem lx_putI_x {l : Launch} {dC : Nat → ClassId} {dI : Nat → Nat → Nat} {ad : Nat → Nat} {cA : Nat → ClassId} {LP : List Nat} {o : Nat → Int64} {A : Nat → Prop} {k : Nat → Nat} {I : sc_I} {D : sc_R} {Kw : lx_KT} (hv : sc_vd LP D) {w a1 a2 a3 a4 a5 : Int32} (hM : tx_MetY l 1 dC dI ad cA LP o A k yX2_put cX2_put 7 none [.inr (2, 0), .inl w, .inl a1, .inl a2, .inl a3, .inl a4, .inl a5] I D tx_I) (hK : Kw 1 o I D) : lx_Met l dC dI ad cA LP o A k yL_put cL_put 8 [(0, 13, 16, 13), (0, 13, 20, 15)] [.inr (2, 0), .inl w, .inl a1, .inl a2, .inl a3, .inl a4, .inl a5] I D Kw := by
  refine lx_pub (by decide) (Nat.le_of_ble_eq_true rfl) ?_
  intro p e s m args below meth c ls hx hb hr hml hown hts hlk htb hK0 hP hZ hls
  refine lv_aload_n hx hb dL_put_0 rfl (lv_at hls 0 rfl) ?_
  refine lv_iload_n hx hb dL_put_1 rfl (lv_at hls 1 rfl) ?_
  refine lv_iload_n hx hb dL_put_2 rfl (lv_at hls 2 rfl) ?_
  refine lv_iload_n hx hb dL_put_3 rfl (lv_at hls 3 rfl) ?_
  refine lv_iload hx hb dL_put_4 (lv_at hls 4 rfl) ?_
  refine lv_iload hx hb dL_put_6 (lv_at hls 5 rfl) ?_
  refine lv_iload hx hb dL_put_8 (lv_at hls 6 rfl) ?_
  refine lx_callX (as := [.inl w, .inl a1, .inl a2, .inl a3, .inl a4, .inl a5]) (rest := []) (y := yX2_put) (cy := cX2_put) (ny := 7) (ry := none) lx_sub hM lkD_put (by decide) rfl lkM_put lkI_put lkS_put lx_i2 lkC_put hx hb hml hown hts hls.1 hK0 hZ (by decide) (by decide) (by decide) (by decide) (Nat.le_of_ble_eq_true rfl) hP va_S.rf dL_put_10 [] _ _ htb (fun z hz => by cases hz) rfl (by decide) lx_c13 (by decide +kernel) ?_
  intro q H1 locs1 hP1 hS1
  refine lv_astore hx hb dL_put_16 hls (by decide) rfl ?_
  intro ls' _
  refine lv_iconst hx hb dL_put_18 rfl ?_
  exact W.iret hx hb hr (fun t ht hW => ⟨1, o, I, D, rfl, hK, hv, by rw [ht]; exact hP1, hS1.F ht⟩) hS1.2.2 dL_put_19 hlk
set_option maxRecDepth 100000 in
theorem lx_putA_x {l : Launch} {dC : Nat → ClassId} {dI : Nat → Nat → Nat} {ad : Nat → Nat} {cA : Nat → ClassId} {LP : List Nat} {o : Nat → Int64} {A : Nat → Prop} {k : Nat → Nat} {I : sc_I} {D : sc_R} {Kw : lx_KT} (hv : sc_vd LP D) {w a1 a2 a3 a4 a5 : Int32} (hM : tx_MetY l 1 dC dI ad cA LP o A k yX2_put cX2_put 7 none [.inr (2, 0), .inl w, .inl a1, .inl a2, .inl a3, .inl a4, .inl a5] I D tx_A) (hK : Kw 2 o I D) : lx_Met l dC dI ad cA LP o A k yL_put cL_put 8 [(0, 13, 16, 13), (0, 13, 20, 15)] [.inr (2, 0), .inl w, .inl a1, .inl a2, .inl a3, .inl a4, .inl a5] I D Kw := by
  refine lx_pub (by decide) (Nat.le_of_ble_eq_true rfl) ?_
  intro p e s m args below meth c ls hx hb hr hml hown hts hlk htb hK0 hP hZ hls
  refine lv_aload_n hx hb dL_put_0 rfl (lv_at hls 0 rfl) ?_
  refine lv_iload_n hx hb dL_put_1 rfl (lv_at hls 1 rfl) ?_
  refine lv_iload_n hx hb dL_put_2 rfl (lv_at hls 2 rfl) ?_
  refine lv_iload_n hx hb dL_put_3 rfl (lv_at hls 3 rfl) ?_
  refine lv_iload hx hb dL_put_4 (lv_at hls 4 rfl) ?_
  refine lv_iload hx hb dL_put_6 (lv_at hls 5 rfl) ?_
  refine lv_iload hx hb dL_put_8 (lv_at hls 6 rfl) ?_
  refine lx_callX (as := [.inl w, .inl a1, .inl a2, .inl a3, .inl a4, .inl a5]) (rest := []) (y := yX2_put) (cy := cX2_put) (ny := 7) (ry := none) lx_sub hM lkD_put (by decide) rfl lkM_put lkI_put lkS_put lx_i2 lkC_put hx hb hml hown hts hls.1 hK0 hZ (by decide) (by decide) (by decide) (by decide) (Nat.le_of_ble_eq_true rfl) hP va_S.rf dL_put_10 [_] _ [] htb ?_ rfl (by decide) lx_c15 (by decide +kernel) ?_
  · intro z hz
    rcases List.mem_cons.mp hz with rfl | hz
    · exact Or.inr ⟨by decide, tx_I, hts _ (lx_sub _ lx_c13), hZ.2.2.2.2.2.2.2⟩
    · cases hz
  intro q H1 locs1 hP1 hS1
  refine lv_astore hx hb dL_put_20 hls (by decide) rfl ?_
  intro ls' _
  refine lv_iconst hx hb dL_put_22 rfl ?_
  exact W.iret hx hb hr (fun t ht hW => ⟨2, o, I, D, rfl, hK, hv, by rw [ht]; exact hP1, hS1.F ht⟩) hS1.2.2 dL_put_23 hlk
